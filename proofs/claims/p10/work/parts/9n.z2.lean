/-! THE CLASS, 19: a read. -/
section Z2
variable {E : Nat → Value} {d x d0 dp : Nat} {h : gm_H} {ca : Nat → Nat} {K : gs_K} {F G : Nat → Prop} {s : gs_S} {rc : gs_M Int32}
theorem x_readContent1 (C : gx_RC E x ca K d0 (dp + 1) rc) (hK : gs_kok K) (hdp : dp < 1000) (hd : d0 + 17 ≤ d) (R : gx_R E h x ca K F s) (hF : ∀ a, F a → a < h.1) : gm_Ca E d 82 [.ref x, .int (nI dp)] h (gx_P E h x ca K F G s (fun a _ v => v = some (.int a)) (gs_body K rc dp s)) := by
  obtain ⟨res, hres⟩ : ∃ res, res = gs_body K rc dp s := ⟨_, rfl⟩
  rw [← hres]
  unfold gs_body at hres
  show gm_W E d 82 0 [.ref x, .int (nI dp)] [] h _
  simp only [r82_0, r82_0n, r82_1, r82_5, r82_5n, r82_9, r82_84, r82_86, r82_87, r82_87n, r82_91, r82_92, r82_92n, r82_93, r82_93i, r82_94, r82_97, r82_98, r82_99, r82_102, r82_102n, r82_103, r82_104, r82_108, r82_108a, r82_108n, r82_109, r82_111, r82_112, r82_112n, r82_113, r82_117, r82_118, r82_118n, r82_122, r82_123, r82_123n, r82_124, r82_128, r82_129, r82_129n, r82_130, r82_134, r82_135, r82_135n, r82_136, r82_137, r82_138, r82_141, r82_143, r82_146, r82_151, r82_152, r82_152n, r82_153, r82_158, r82_159, r82_159n, r82_160, r82_165, i32_10, reduceIte, gm_cmp1, gm_cmp3, gm_cmp4, gm_kd_sf, gm_ln_sf, gm_sf_1, gm_sf_2, gm_nw_1, gm_nw_2, gm_k_int, gm_k_ref, gm_k_null, gm_k_u, gm_k_long, and_true, true_and, true_or, or_true, or_false, false_or, and_self, or_self, if_true, if_false, List.map_nil, List.map_cons, List.sum_nil, List.sum_cons, Nat.zero_le, Option.toList_some, Option.toList_none, List.cons_append, List.nil_append, ne_eq, not_false_eq_true, not_true_eq_false, nI_1, nI_add, Value.category, Nat.reduceAdd, Nat.reduceMod, Nat.reduceLeDiff, Nat.reduceLT, Nat.reduceEqDiff, Nat.reducePow, Nat.le_refl, Nat.add_left_cancel_iff, Nat.add_eq_left, Nat.left_eq_add, Nat.add_zero]
  refine c82_2 (by simp) R.1.1 (by omega) (x_askRoom (G := fun _ => False) (by omega) hdp R) (fun v h1 q => ?_) (fun _ _ q => q.er (s := s) (h := h) (fun f e => by rw [hres]; exact gs_b_er e) ⟨gx_mv.refl, gx_le.refl, gx_co.refl⟩ (fun _ z => z.elim))
  obtain ⟨_, s1, e1, ⟨rfl, na1⟩, R1, mv1, le1, co1⟩ := q
  rw [gs_b_ok e1] at hres
  have es1 : s1 = s := by
    unfold gs_room at e1
    split at e1
    · cases e1
    · cases e1; rfl
  have st1 : gx_st h s x G h1 s1 := ⟨mv1.wk (fun _ z => z.elim), le1, co1⟩
  simp only [r82_0, r82_0n, r82_1, r82_5, r82_5n, r82_9, r82_84, r82_86, r82_87, r82_87n, r82_91, r82_92, r82_92n, r82_93, r82_93i, r82_94, r82_97, r82_98, r82_99, r82_102, r82_102n, r82_103, r82_104, r82_108, r82_108a, r82_108n, r82_109, r82_111, r82_112, r82_112n, r82_113, r82_117, r82_118, r82_118n, r82_122, r82_123, r82_123n, r82_124, r82_128, r82_129, r82_129n, r82_130, r82_134, r82_135, r82_135n, r82_136, r82_137, r82_138, r82_141, r82_143, r82_146, r82_151, r82_152, r82_152n, r82_153, r82_158, r82_159, r82_159n, r82_160, r82_165, i32_10, reduceIte, gm_cmp1, gm_cmp3, gm_cmp4, gm_kd_sf, gm_ln_sf, gm_sf_1, gm_sf_2, gm_nw_1, gm_nw_2, gm_k_int, gm_k_ref, gm_k_null, gm_k_u, gm_k_long, and_true, true_and, true_or, or_true, or_false, false_or, and_self, or_self, if_true, if_false, List.map_nil, List.map_cons, List.sum_nil, List.sum_cons, Nat.zero_le, Option.toList_some, Option.toList_none, List.cons_append, List.nil_append, ne_eq, not_false_eq_true, not_true_eq_false, nI_1, nI_add, Value.category, Nat.reduceAdd, Nat.reduceMod, Nat.reduceLeDiff, Nat.reduceLT, Nat.reduceEqDiff, Nat.reducePow, Nat.le_refl, Nat.add_left_cancel_iff, Nat.add_eq_left, Nat.left_eq_add, Nat.add_zero]
  refine c82_6 (by simp) R1.1.1 (by omega) (x_nextByte (G := fun _ => False) (by omega) R1) (fun v h2 q => ?_) (fun _ _ q => q.er (fun f e => by rw [hres]; exact gs_b_er e) st1 (fun _ z => z.elim))
  obtain ⟨t, s2, e2, ⟨rfl, na2⟩, R2, mv2, le2, co2⟩ := q
  rw [gs_b_ok e2] at hres
  obtain ⟨-, es2, hp2⟩ := gs_u1_ok e2
  have st2 := st1.trans mv2 le2 co2 (fun _ z => z.elim)
  have hF2 : ∀ a, F a → a < h2.1 := fun a z => by have := hF a z; have := mv1.1.1; have := mv2.1.1; omega
  by_cases t0 : t = 112
  · subst t0
    rw [if_pos rfl] at hres
    simp (decide := true) only [r82_0, r82_0n, r82_1, r82_5, r82_5n, r82_9, r82_84, r82_86, r82_87, r82_87n, r82_91, r82_92, r82_92n, r82_93, r82_93i, r82_94, r82_97, r82_98, r82_99, r82_102, r82_102n, r82_103, r82_104, r82_108, r82_108a, r82_108n, r82_109, r82_111, r82_112, r82_112n, r82_113, r82_117, r82_118, r82_118n, r82_122, r82_123, r82_123n, r82_124, r82_128, r82_129, r82_129n, r82_130, r82_134, r82_135, r82_135n, r82_136, r82_137, r82_138, r82_141, r82_143, r82_146, r82_151, r82_152, r82_152n, r82_153, r82_158, r82_159, r82_159n, r82_160, r82_165, i32_10, reduceIte, gm_cmp1, gm_cmp3, gm_cmp4, gm_kd_sf, gm_ln_sf, gm_sf_1, gm_sf_2, gm_nw_1, gm_nw_2, gm_k_int, gm_k_ref, gm_k_null, gm_k_u, gm_k_long, and_true, true_and, true_or, or_true, or_false, false_or, and_self, or_self, if_true, if_false, List.map_nil, List.map_cons, List.sum_nil, List.sum_cons, Nat.zero_le, Option.toList_some, Option.toList_none, List.cons_append, List.nil_append, ne_eq, not_false_eq_true, not_true_eq_false, nI_1, nI_add, Value.category, Nat.reduceAdd, Nat.reduceMod, Nat.reduceLeDiff, Nat.reduceLT, Nat.reduceEqDiff, Nat.reducePow, Nat.le_refl, Nat.add_left_cancel_iff, Nat.add_eq_left, Nat.left_eq_add, Nat.add_zero]
    rw [hres]
    exact ⟨-2, s2, rfl, rfl, R2, st2.1, st2.2.1, st2.2.2⟩
  rw [if_neg t0] at hres
  by_cases t1 : t = 113
  · subst t1
    rw [if_pos rfl] at hres
    simp (decide := true) only [r82_0, r82_0n, r82_1, r82_5, r82_5n, r82_9, r82_84, r82_86, r82_87, r82_87n, r82_91, r82_92, r82_92n, r82_93, r82_93i, r82_94, r82_97, r82_98, r82_99, r82_102, r82_102n, r82_103, r82_104, r82_108, r82_108a, r82_108n, r82_109, r82_111, r82_112, r82_112n, r82_113, r82_117, r82_118, r82_118n, r82_122, r82_123, r82_123n, r82_124, r82_128, r82_129, r82_129n, r82_130, r82_134, r82_135, r82_135n, r82_136, r82_137, r82_138, r82_141, r82_143, r82_146, r82_151, r82_152, r82_152n, r82_153, r82_158, r82_159, r82_159n, r82_160, r82_165, i32_10, reduceIte, gm_cmp1, gm_cmp3, gm_cmp4, gm_kd_sf, gm_ln_sf, gm_sf_1, gm_sf_2, gm_nw_1, gm_nw_2, gm_k_int, gm_k_ref, gm_k_null, gm_k_u, gm_k_long, and_true, true_and, true_or, or_true, or_false, false_or, and_self, or_self, if_true, if_false, List.map_nil, List.map_cons, List.sum_nil, List.sum_cons, Nat.zero_le, Option.toList_some, Option.toList_none, List.cons_append, List.nil_append, ne_eq, not_false_eq_true, not_true_eq_false, nI_1, nI_add, Value.category, Nat.reduceAdd, Nat.reduceMod, Nat.reduceLeDiff, Nat.reduceLT, Nat.reduceEqDiff, Nat.reducePow, Nat.le_refl, Nat.add_left_cancel_iff, Nat.add_eq_left, Nat.left_eq_add, Nat.add_zero]
    refine c82_88 (by simp) R2.1.1 (by omega) (x_readReference (G := fun _ => False) (by omega) R2) (fun v h3 q => ?_) (fun _ _ q => q.er (fun f e => by rw [hres]; exact e) st2 (fun _ z => z.elim))
    obtain ⟨v, s3, e3, ⟨rfl, na3⟩, R3, mv3, le3, co3⟩ := q
    have st3 := st2.trans mv3 le3 co3 (fun _ z => z.elim)
    simp only [r82_0, r82_0n, r82_1, r82_5, r82_5n, r82_9, r82_84, r82_86, r82_87, r82_87n, r82_91, r82_92, r82_92n, r82_93, r82_93i, r82_94, r82_97, r82_98, r82_99, r82_102, r82_102n, r82_103, r82_104, r82_108, r82_108a, r82_108n, r82_109, r82_111, r82_112, r82_112n, r82_113, r82_117, r82_118, r82_118n, r82_122, r82_123, r82_123n, r82_124, r82_128, r82_129, r82_129n, r82_130, r82_134, r82_135, r82_135n, r82_136, r82_137, r82_138, r82_141, r82_143, r82_146, r82_151, r82_152, r82_152n, r82_153, r82_158, r82_159, r82_159n, r82_160, r82_165, i32_10, reduceIte, gm_cmp1, gm_cmp3, gm_cmp4, gm_kd_sf, gm_ln_sf, gm_sf_1, gm_sf_2, gm_nw_1, gm_nw_2, gm_k_int, gm_k_ref, gm_k_null, gm_k_u, gm_k_long, and_true, true_and, true_or, or_true, or_false, false_or, and_self, or_self, if_true, if_false, List.map_nil, List.map_cons, List.sum_nil, List.sum_cons, Nat.zero_le, Option.toList_some, Option.toList_none, List.cons_append, List.nil_append, ne_eq, not_false_eq_true, not_true_eq_false, nI_1, nI_add, Value.category, Nat.reduceAdd, Nat.reduceMod, Nat.reduceLeDiff, Nat.reduceLT, Nat.reduceEqDiff, Nat.reducePow, Nat.le_refl, Nat.add_left_cancel_iff, Nat.add_eq_left, Nat.left_eq_add, Nat.add_zero]
    rw [hres]
    exact ⟨v, s3, e3, rfl, R3, st3.1, st3.2.1, st3.2.2⟩
  rw [if_neg t1] at hres
  by_cases t2 : t = 114
  · subst t2
    rw [if_pos rfl] at hres
    have ep : gs_pl s2 = gs_pl s1 + 1 := by rw [es2]; rfl
    have e0 : (fun s => .ok ((), gs_p (gs_pl s - 1) s) : gs_M Unit) s2 = .ok ((), gs_p (gs_pl s2 - 1) s2) := rfl
    rw [gs_b_ok e0] at hres
    have hsub : nI (gs_pl s2) - 1 = nI (gs_pl s2 - 1) := nI_sub (b := 1) (by omega)
    have z1 := R2.2.2.2.1.1
    have z2 := R2.2.2.2.1.2.1
    simp (decide := true) only [r82_0, r82_0n, r82_1, r82_5, r82_5n, r82_9, r82_84, r82_86, r82_87, r82_87n, r82_91, r82_92, r82_92n, r82_93, r82_93i, r82_94, r82_97, r82_98, r82_99, r82_102, r82_102n, r82_103, r82_104, r82_108, r82_108a, r82_108n, r82_109, r82_111, r82_112, r82_112n, r82_113, r82_117, r82_118, r82_118n, r82_122, r82_123, r82_123n, r82_124, r82_128, r82_129, r82_129n, r82_130, r82_134, r82_135, r82_135n, r82_136, r82_137, r82_138, r82_141, r82_143, r82_146, r82_151, r82_152, r82_152n, r82_153, r82_158, r82_159, r82_159n, r82_160, r82_165, i32_10, reduceIte, gm_cmp1, gm_cmp3, gm_cmp4, gm_kd_sf, gm_ln_sf, gm_sf_1, gm_sf_2, gm_nw_1, gm_nw_2, gm_k_int, gm_k_ref, gm_k_null, gm_k_u, gm_k_long, and_true, true_and, true_or, or_true, or_false, false_or, and_self, or_self, if_true, if_false, List.map_nil, List.map_cons, List.sum_nil, List.sum_cons, Nat.zero_le, Option.toList_some, Option.toList_none, List.cons_append, List.nil_append, ne_eq, not_false_eq_true, not_true_eq_false, nI_1, nI_add, Value.category, Nat.reduceAdd, Nat.reduceMod, Nat.reduceLeDiff, Nat.reduceLT, Nat.reduceEqDiff, Nat.reducePow, Nat.le_refl, Nat.add_left_cancel_iff, Nat.add_eq_left, Nat.left_eq_add, Nat.add_zero, R2.1.1, z1, hsub]
    have R3 := R2.place (p := gs_pl s2 - 1) (by omega)
    have st3 : gx_st h s x G (gm_sf h2 x 7 (.int (nI (gs_pl s2 - 1)))) (gs_p (gs_pl s2 - 1) s2) := by
      refine ⟨st2.1.trans (G1 := G) (s1 := s2) (gx_mv.fld (by decide)) st2.2.1 (fun _ z => Or.inr z), st2.2.1, ?_⟩
      obtain ⟨a1, b1⟩ := na1
      obtain ⟨a2, b2⟩ := na2
      unfold gx_co
      simp only [gm_sf_1, gm_sf_2]
      show h2.1 + gs_pl s ≤ h.1 + (gs_pl s2 - 1) ∧ h2.2.1 + 8 * gs_pl s ≤ h.2.1 + 8 * (gs_pl s2 - 1)
      rw [ep, es1]
      omega
    refine c82_105 (by simp) R3.1.1 (by omega) (x_readDescriptor C hK.1 hdp 8 (by decide) (d - 1) _ _ F (fun _ => False) (by omega) R3 (fun a z => by rw [gm_sf_1]; exact hF2 a z)) (fun v h4 q => ?_) (fun _ _ q => q.er (fun f e => by rw [hres]; exact gs_b_er e) st3 (fun _ z => z.elim))
    obtain ⟨L, s4, e4, ⟨⟨w, rfl, ds⟩, -⟩, R4, mv4, le4, co4⟩ := q
    rw [gs_b_ok e4] at hres
    have st4 := st3.trans mv4 le4 co4 (fun _ z => z.elim)
    cases L with
    | nil =>
      have ds : w = .null := ds
      subst ds
      simp only [r82_0, r82_0n, r82_1, r82_5, r82_5n, r82_9, r82_84, r82_86, r82_87, r82_87n, r82_91, r82_92, r82_92n, r82_93, r82_93i, r82_94, r82_97, r82_98, r82_99, r82_102, r82_102n, r82_103, r82_104, r82_108, r82_108a, r82_108n, r82_109, r82_111, r82_112, r82_112n, r82_113, r82_117, r82_118, r82_118n, r82_122, r82_123, r82_123n, r82_124, r82_128, r82_129, r82_129n, r82_130, r82_134, r82_135, r82_135n, r82_136, r82_137, r82_138, r82_141, r82_143, r82_146, r82_151, r82_152, r82_152n, r82_153, r82_158, r82_159, r82_159n, r82_160, r82_165, i32_10, reduceIte, gm_cmp1, gm_cmp3, gm_cmp4, gm_kd_sf, gm_ln_sf, gm_sf_1, gm_sf_2, gm_nw_1, gm_nw_2, gm_k_int, gm_k_ref, gm_k_null, gm_k_u, gm_k_long, and_true, true_and, true_or, or_true, or_false, false_or, and_self, or_self, if_true, if_false, List.map_nil, List.map_cons, List.sum_nil, List.sum_cons, Nat.zero_le, Option.toList_some, Option.toList_none, List.cons_append, List.nil_append, ne_eq, not_false_eq_true, not_true_eq_false, nI_1, nI_add, Value.category, Nat.reduceAdd, Nat.reduceMod, Nat.reduceLeDiff, Nat.reduceLT, Nat.reduceEqDiff, Nat.reducePow, Nat.le_refl, Nat.add_left_cancel_iff, Nat.add_eq_left, Nat.left_eq_add, Nat.add_zero]
      rw [hres]
      exact ⟨-2, s4, rfl, rfl, R4, st4.1, st4.2.1, st4.2.2⟩
    | cons l L =>
      obtain ⟨_, _, _, rfl, _⟩ := ds
      simp only [r82_0, r82_0n, r82_1, r82_5, r82_5n, r82_9, r82_84, r82_86, r82_87, r82_87n, r82_91, r82_92, r82_92n, r82_93, r82_93i, r82_94, r82_97, r82_98, r82_99, r82_102, r82_102n, r82_103, r82_104, r82_108, r82_108a, r82_108n, r82_109, r82_111, r82_112, r82_112n, r82_113, r82_117, r82_118, r82_118n, r82_122, r82_123, r82_123n, r82_124, r82_128, r82_129, r82_129n, r82_130, r82_134, r82_135, r82_135n, r82_136, r82_137, r82_138, r82_141, r82_143, r82_146, r82_151, r82_152, r82_152n, r82_153, r82_158, r82_159, r82_159n, r82_160, r82_165, i32_10, reduceIte, gm_cmp1, gm_cmp3, gm_cmp4, gm_kd_sf, gm_ln_sf, gm_sf_1, gm_sf_2, gm_nw_1, gm_nw_2, gm_k_int, gm_k_ref, gm_k_null, gm_k_u, gm_k_long, and_true, true_and, true_or, or_true, or_false, false_or, and_self, or_self, if_true, if_false, List.map_nil, List.map_cons, List.sum_nil, List.sum_cons, Nat.zero_le, Option.toList_some, Option.toList_none, List.cons_append, List.nil_append, ne_eq, not_false_eq_true, not_true_eq_false, nI_1, nI_add, Value.category, Nat.reduceAdd, Nat.reduceMod, Nat.reduceLeDiff, Nat.reduceLT, Nat.reduceEqDiff, Nat.reducePow, Nat.le_refl, Nat.add_left_cancel_iff, Nat.add_eq_left, Nat.left_eq_add, Nat.add_zero]
      rw [hres]
      exact ⟨-2, s4, rfl, rfl, R4, st4.1, st4.2.1, st4.2.2⟩
  rw [if_neg t2] at hres
  by_cases t3 : t = 115
  · subst t3
    rw [if_pos rfl] at hres
    simp (decide := true) only [r82_0, r82_0n, r82_1, r82_5, r82_5n, r82_9, r82_84, r82_86, r82_87, r82_87n, r82_91, r82_92, r82_92n, r82_93, r82_93i, r82_94, r82_97, r82_98, r82_99, r82_102, r82_102n, r82_103, r82_104, r82_108, r82_108a, r82_108n, r82_109, r82_111, r82_112, r82_112n, r82_113, r82_117, r82_118, r82_118n, r82_122, r82_123, r82_123n, r82_124, r82_128, r82_129, r82_129n, r82_130, r82_134, r82_135, r82_135n, r82_136, r82_137, r82_138, r82_141, r82_143, r82_146, r82_151, r82_152, r82_152n, r82_153, r82_158, r82_159, r82_159n, r82_160, r82_165, i32_10, reduceIte, gm_cmp1, gm_cmp3, gm_cmp4, gm_kd_sf, gm_ln_sf, gm_sf_1, gm_sf_2, gm_nw_1, gm_nw_2, gm_k_int, gm_k_ref, gm_k_null, gm_k_u, gm_k_long, and_true, true_and, true_or, or_true, or_false, false_or, and_self, or_self, if_true, if_false, List.map_nil, List.map_cons, List.sum_nil, List.sum_cons, Nat.zero_le, Option.toList_some, Option.toList_none, List.cons_append, List.nil_append, ne_eq, not_false_eq_true, not_true_eq_false, nI_1, nI_add, Value.category, Nat.reduceAdd, Nat.reduceMod, Nat.reduceLeDiff, Nat.reduceLT, Nat.reduceEqDiff, Nat.reducePow, Nat.le_refl, Nat.add_left_cancel_iff, Nat.add_eq_left, Nat.left_eq_add, Nat.add_zero]
    refine c82_114 (by simp) R2.1.1 (by omega) (x_readInstance (G := fun _ => False) C hK hdp (by omega) R2 hF2) (fun v h3 q => ?_) (fun _ _ q => q.er (fun f e => by rw [hres]; exact e) st2 (fun _ z => z.elim))
    obtain ⟨v, s3, e3, rfl, R3, mv3, le3, co3⟩ := q
    have st3 := st2.trans mv3 le3 co3 (fun _ z => z.elim)
    simp only [r82_0, r82_0n, r82_1, r82_5, r82_5n, r82_9, r82_84, r82_86, r82_87, r82_87n, r82_91, r82_92, r82_92n, r82_93, r82_93i, r82_94, r82_97, r82_98, r82_99, r82_102, r82_102n, r82_103, r82_104, r82_108, r82_108a, r82_108n, r82_109, r82_111, r82_112, r82_112n, r82_113, r82_117, r82_118, r82_118n, r82_122, r82_123, r82_123n, r82_124, r82_128, r82_129, r82_129n, r82_130, r82_134, r82_135, r82_135n, r82_136, r82_137, r82_138, r82_141, r82_143, r82_146, r82_151, r82_152, r82_152n, r82_153, r82_158, r82_159, r82_159n, r82_160, r82_165, i32_10, reduceIte, gm_cmp1, gm_cmp3, gm_cmp4, gm_kd_sf, gm_ln_sf, gm_sf_1, gm_sf_2, gm_nw_1, gm_nw_2, gm_k_int, gm_k_ref, gm_k_null, gm_k_u, gm_k_long, and_true, true_and, true_or, or_true, or_false, false_or, and_self, or_self, if_true, if_false, List.map_nil, List.map_cons, List.sum_nil, List.sum_cons, Nat.zero_le, Option.toList_some, Option.toList_none, List.cons_append, List.nil_append, ne_eq, not_false_eq_true, not_true_eq_false, nI_1, nI_add, Value.category, Nat.reduceAdd, Nat.reduceMod, Nat.reduceLeDiff, Nat.reduceLT, Nat.reduceEqDiff, Nat.reducePow, Nat.le_refl, Nat.add_left_cancel_iff, Nat.add_eq_left, Nat.left_eq_add, Nat.add_zero]
    rw [hres]
    exact ⟨v, s3, e3, rfl, R3, st3.1, st3.2.1, st3.2.2⟩
  rw [if_neg t3] at hres
  by_cases t4 : t = 116
  · subst t4
    rw [if_pos rfl] at hres
    simp (decide := true) only [r82_0, r82_0n, r82_1, r82_5, r82_5n, r82_9, r82_84, r82_86, r82_87, r82_87n, r82_91, r82_92, r82_92n, r82_93, r82_93i, r82_94, r82_97, r82_98, r82_99, r82_102, r82_102n, r82_103, r82_104, r82_108, r82_108a, r82_108n, r82_109, r82_111, r82_112, r82_112n, r82_113, r82_117, r82_118, r82_118n, r82_122, r82_123, r82_123n, r82_124, r82_128, r82_129, r82_129n, r82_130, r82_134, r82_135, r82_135n, r82_136, r82_137, r82_138, r82_141, r82_143, r82_146, r82_151, r82_152, r82_152n, r82_153, r82_158, r82_159, r82_159n, r82_160, r82_165, i32_10, reduceIte, gm_cmp1, gm_cmp3, gm_cmp4, gm_kd_sf, gm_ln_sf, gm_sf_1, gm_sf_2, gm_nw_1, gm_nw_2, gm_k_int, gm_k_ref, gm_k_null, gm_k_u, gm_k_long, and_true, true_and, true_or, or_true, or_false, false_or, and_self, or_self, if_true, if_false, List.map_nil, List.map_cons, List.sum_nil, List.sum_cons, Nat.zero_le, Option.toList_some, Option.toList_none, List.cons_append, List.nil_append, ne_eq, not_false_eq_true, not_true_eq_false, nI_1, nI_add, Value.category, Nat.reduceAdd, Nat.reduceMod, Nat.reduceLeDiff, Nat.reduceLT, Nat.reduceEqDiff, Nat.reducePow, Nat.le_refl, Nat.add_left_cancel_iff, Nat.add_eq_left, Nat.left_eq_add, Nat.add_zero]
    refine c82_119 (by simp) R2.1.1 (by omega) (x_readText (G := fun _ => False) (by omega) R2 hF2) (fun v h3 q => ?_) (fun _ _ q => q.er (fun f e => by rw [hres]; exact e) st2 (fun _ z => z.elim))
    obtain ⟨v, s3, e3, rfl, R3, mv3, le3, co3⟩ := q
    have st3 := st2.trans mv3 le3 co3 (fun _ z => z.elim)
    simp only [r82_0, r82_0n, r82_1, r82_5, r82_5n, r82_9, r82_84, r82_86, r82_87, r82_87n, r82_91, r82_92, r82_92n, r82_93, r82_93i, r82_94, r82_97, r82_98, r82_99, r82_102, r82_102n, r82_103, r82_104, r82_108, r82_108a, r82_108n, r82_109, r82_111, r82_112, r82_112n, r82_113, r82_117, r82_118, r82_118n, r82_122, r82_123, r82_123n, r82_124, r82_128, r82_129, r82_129n, r82_130, r82_134, r82_135, r82_135n, r82_136, r82_137, r82_138, r82_141, r82_143, r82_146, r82_151, r82_152, r82_152n, r82_153, r82_158, r82_159, r82_159n, r82_160, r82_165, i32_10, reduceIte, gm_cmp1, gm_cmp3, gm_cmp4, gm_kd_sf, gm_ln_sf, gm_sf_1, gm_sf_2, gm_nw_1, gm_nw_2, gm_k_int, gm_k_ref, gm_k_null, gm_k_u, gm_k_long, and_true, true_and, true_or, or_true, or_false, false_or, and_self, or_self, if_true, if_false, List.map_nil, List.map_cons, List.sum_nil, List.sum_cons, Nat.zero_le, Option.toList_some, Option.toList_none, List.cons_append, List.nil_append, ne_eq, not_false_eq_true, not_true_eq_false, nI_1, nI_add, Value.category, Nat.reduceAdd, Nat.reduceMod, Nat.reduceLeDiff, Nat.reduceLT, Nat.reduceEqDiff, Nat.reducePow, Nat.le_refl, Nat.add_left_cancel_iff, Nat.add_eq_left, Nat.left_eq_add, Nat.add_zero]
    rw [hres]
    exact ⟨v, s3, e3, rfl, R3, st3.1, st3.2.1, st3.2.2⟩
  rw [if_neg t4] at hres
  by_cases t5 : t = 117
  · subst t5
    rw [if_pos rfl] at hres
    simp (decide := true) only [r82_0, r82_0n, r82_1, r82_5, r82_5n, r82_9, r82_84, r82_86, r82_87, r82_87n, r82_91, r82_92, r82_92n, r82_93, r82_93i, r82_94, r82_97, r82_98, r82_99, r82_102, r82_102n, r82_103, r82_104, r82_108, r82_108a, r82_108n, r82_109, r82_111, r82_112, r82_112n, r82_113, r82_117, r82_118, r82_118n, r82_122, r82_123, r82_123n, r82_124, r82_128, r82_129, r82_129n, r82_130, r82_134, r82_135, r82_135n, r82_136, r82_137, r82_138, r82_141, r82_143, r82_146, r82_151, r82_152, r82_152n, r82_153, r82_158, r82_159, r82_159n, r82_160, r82_165, i32_10, reduceIte, gm_cmp1, gm_cmp3, gm_cmp4, gm_kd_sf, gm_ln_sf, gm_sf_1, gm_sf_2, gm_nw_1, gm_nw_2, gm_k_int, gm_k_ref, gm_k_null, gm_k_u, gm_k_long, and_true, true_and, true_or, or_true, or_false, false_or, and_self, or_self, if_true, if_false, List.map_nil, List.map_cons, List.sum_nil, List.sum_cons, Nat.zero_le, Option.toList_some, Option.toList_none, List.cons_append, List.nil_append, ne_eq, not_false_eq_true, not_true_eq_false, nI_1, nI_add, Value.category, Nat.reduceAdd, Nat.reduceMod, Nat.reduceLeDiff, Nat.reduceLT, Nat.reduceEqDiff, Nat.reducePow, Nat.le_refl, Nat.add_left_cancel_iff, Nat.add_eq_left, Nat.left_eq_add, Nat.add_zero]
    refine c82_125 (by simp) R2.1.1 (by omega) (x_readArray (G := fun _ => False) C hK hdp (by omega) R2 hF2) (fun v h3 q => ?_) (fun _ _ q => q.er (fun f e => by rw [hres]; exact e) st2 (fun _ z => z.elim))
    obtain ⟨v, s3, e3, rfl, R3, mv3, le3, co3⟩ := q
    have st3 := st2.trans mv3 le3 co3 (fun _ z => z.elim)
    simp only [r82_0, r82_0n, r82_1, r82_5, r82_5n, r82_9, r82_84, r82_86, r82_87, r82_87n, r82_91, r82_92, r82_92n, r82_93, r82_93i, r82_94, r82_97, r82_98, r82_99, r82_102, r82_102n, r82_103, r82_104, r82_108, r82_108a, r82_108n, r82_109, r82_111, r82_112, r82_112n, r82_113, r82_117, r82_118, r82_118n, r82_122, r82_123, r82_123n, r82_124, r82_128, r82_129, r82_129n, r82_130, r82_134, r82_135, r82_135n, r82_136, r82_137, r82_138, r82_141, r82_143, r82_146, r82_151, r82_152, r82_152n, r82_153, r82_158, r82_159, r82_159n, r82_160, r82_165, i32_10, reduceIte, gm_cmp1, gm_cmp3, gm_cmp4, gm_kd_sf, gm_ln_sf, gm_sf_1, gm_sf_2, gm_nw_1, gm_nw_2, gm_k_int, gm_k_ref, gm_k_null, gm_k_u, gm_k_long, and_true, true_and, true_or, or_true, or_false, false_or, and_self, or_self, if_true, if_false, List.map_nil, List.map_cons, List.sum_nil, List.sum_cons, Nat.zero_le, Option.toList_some, Option.toList_none, List.cons_append, List.nil_append, ne_eq, not_false_eq_true, not_true_eq_false, nI_1, nI_add, Value.category, Nat.reduceAdd, Nat.reduceMod, Nat.reduceLeDiff, Nat.reduceLT, Nat.reduceEqDiff, Nat.reducePow, Nat.le_refl, Nat.add_left_cancel_iff, Nat.add_eq_left, Nat.left_eq_add, Nat.add_zero]
    rw [hres]
    exact ⟨v, s3, e3, rfl, R3, st3.1, st3.2.1, st3.2.2⟩
  rw [if_neg t5] at hres
  by_cases t6 : t = 126
  · subst t6
    rw [if_pos rfl] at hres
    simp (decide := true) only [r82_0, r82_0n, r82_1, r82_5, r82_5n, r82_9, r82_84, r82_86, r82_87, r82_87n, r82_91, r82_92, r82_92n, r82_93, r82_93i, r82_94, r82_97, r82_98, r82_99, r82_102, r82_102n, r82_103, r82_104, r82_108, r82_108a, r82_108n, r82_109, r82_111, r82_112, r82_112n, r82_113, r82_117, r82_118, r82_118n, r82_122, r82_123, r82_123n, r82_124, r82_128, r82_129, r82_129n, r82_130, r82_134, r82_135, r82_135n, r82_136, r82_137, r82_138, r82_141, r82_143, r82_146, r82_151, r82_152, r82_152n, r82_153, r82_158, r82_159, r82_159n, r82_160, r82_165, i32_10, reduceIte, gm_cmp1, gm_cmp3, gm_cmp4, gm_kd_sf, gm_ln_sf, gm_sf_1, gm_sf_2, gm_nw_1, gm_nw_2, gm_k_int, gm_k_ref, gm_k_null, gm_k_u, gm_k_long, and_true, true_and, true_or, or_true, or_false, false_or, and_self, or_self, if_true, if_false, List.map_nil, List.map_cons, List.sum_nil, List.sum_cons, Nat.zero_le, Option.toList_some, Option.toList_none, List.cons_append, List.nil_append, ne_eq, not_false_eq_true, not_true_eq_false, nI_1, nI_add, Value.category, Nat.reduceAdd, Nat.reduceMod, Nat.reduceLeDiff, Nat.reduceLT, Nat.reduceEqDiff, Nat.reducePow, Nat.le_refl, Nat.add_left_cancel_iff, Nat.add_eq_left, Nat.left_eq_add, Nat.add_zero]
    refine c82_131 (by simp) R2.1.1 (by omega) (x_readConstant (G := fun _ => False) C hK hdp (by omega) R2 hF2) (fun v h3 q => ?_) (fun _ _ q => q.er (fun f e => by rw [hres]; exact e) st2 (fun _ z => z.elim))
    obtain ⟨v, s3, e3, rfl, R3, mv3, le3, co3⟩ := q
    have st3 := st2.trans mv3 le3 co3 (fun _ z => z.elim)
    simp only [r82_0, r82_0n, r82_1, r82_5, r82_5n, r82_9, r82_84, r82_86, r82_87, r82_87n, r82_91, r82_92, r82_92n, r82_93, r82_93i, r82_94, r82_97, r82_98, r82_99, r82_102, r82_102n, r82_103, r82_104, r82_108, r82_108a, r82_108n, r82_109, r82_111, r82_112, r82_112n, r82_113, r82_117, r82_118, r82_118n, r82_122, r82_123, r82_123n, r82_124, r82_128, r82_129, r82_129n, r82_130, r82_134, r82_135, r82_135n, r82_136, r82_137, r82_138, r82_141, r82_143, r82_146, r82_151, r82_152, r82_152n, r82_153, r82_158, r82_159, r82_159n, r82_160, r82_165, i32_10, reduceIte, gm_cmp1, gm_cmp3, gm_cmp4, gm_kd_sf, gm_ln_sf, gm_sf_1, gm_sf_2, gm_nw_1, gm_nw_2, gm_k_int, gm_k_ref, gm_k_null, gm_k_u, gm_k_long, and_true, true_and, true_or, or_true, or_false, false_or, and_self, or_self, if_true, if_false, List.map_nil, List.map_cons, List.sum_nil, List.sum_cons, Nat.zero_le, Option.toList_some, Option.toList_none, List.cons_append, List.nil_append, ne_eq, not_false_eq_true, not_true_eq_false, nI_1, nI_add, Value.category, Nat.reduceAdd, Nat.reduceMod, Nat.reduceLeDiff, Nat.reduceLT, Nat.reduceEqDiff, Nat.reducePow, Nat.le_refl, Nat.add_left_cancel_iff, Nat.add_eq_left, Nat.left_eq_add, Nat.add_zero]
    rw [hres]
    exact ⟨v, s3, e3, rfl, R3, st3.1, st3.2.1, st3.2.2⟩
  rw [if_neg t6] at hres
  have opt : res = gs_x (if dp = 1 then -7 else -4) s2 → gm_W E d 82 135 [.ref x, .int (nI dp)] [] h2 (gx_P E h x ca K F G s (fun a _ v => v = some (.int a)) res) := by
    intro er
    have e1 : (nI dp = 1) = (dp = 1) := propext (nI_eq (b := 1) (by omega) (by decide))
    by_cases hd1 : dp = 1
    · simp only [r82_0, r82_0n, r82_1, r82_5, r82_5n, r82_9, r82_84, r82_86, r82_87, r82_87n, r82_91, r82_92, r82_92n, r82_93, r82_93i, r82_94, r82_97, r82_98, r82_99, r82_102, r82_102n, r82_103, r82_104, r82_108, r82_108a, r82_108n, r82_109, r82_111, r82_112, r82_112n, r82_113, r82_117, r82_118, r82_118n, r82_122, r82_123, r82_123n, r82_124, r82_128, r82_129, r82_129n, r82_130, r82_134, r82_135, r82_135n, r82_136, r82_137, r82_138, r82_141, r82_143, r82_146, r82_151, r82_152, r82_152n, r82_153, r82_158, r82_159, r82_159n, r82_160, r82_165, i32_10, reduceIte, gm_cmp1, gm_cmp3, gm_cmp4, gm_kd_sf, gm_ln_sf, gm_sf_1, gm_sf_2, gm_nw_1, gm_nw_2, gm_k_int, gm_k_ref, gm_k_null, gm_k_u, gm_k_long, and_true, true_and, true_or, or_true, or_false, false_or, and_self, or_self, if_true, if_false, List.map_nil, List.map_cons, List.sum_nil, List.sum_cons, Nat.zero_le, Option.toList_some, Option.toList_none, List.cons_append, List.nil_append, ne_eq, not_false_eq_true, not_true_eq_false, nI_1, nI_add, Value.category, Nat.reduceAdd, Nat.reduceMod, Nat.reduceLeDiff, Nat.reduceLT, Nat.reduceEqDiff, Nat.reducePow, Nat.le_refl, Nat.add_left_cancel_iff, Nat.add_eq_left, Nat.left_eq_add, Nat.add_zero, e1, hd1]
      exact c82_148 (by simp) R2.1.1 (by omega) (x_fail (G := G) (α := Unit) (val := fun _ _ _ => True) R2) gx_fn (fun _ _ q => q.er (fun f e => by cases e; rw [er, if_pos hd1]; rfl) st2 (fun _ z => Or.inr z))
    · simp only [r82_0, r82_0n, r82_1, r82_5, r82_5n, r82_9, r82_84, r82_86, r82_87, r82_87n, r82_91, r82_92, r82_92n, r82_93, r82_93i, r82_94, r82_97, r82_98, r82_99, r82_102, r82_102n, r82_103, r82_104, r82_108, r82_108a, r82_108n, r82_109, r82_111, r82_112, r82_112n, r82_113, r82_117, r82_118, r82_118n, r82_122, r82_123, r82_123n, r82_124, r82_128, r82_129, r82_129n, r82_130, r82_134, r82_135, r82_135n, r82_136, r82_137, r82_138, r82_141, r82_143, r82_146, r82_151, r82_152, r82_152n, r82_153, r82_158, r82_159, r82_159n, r82_160, r82_165, i32_10, reduceIte, gm_cmp1, gm_cmp3, gm_cmp4, gm_kd_sf, gm_ln_sf, gm_sf_1, gm_sf_2, gm_nw_1, gm_nw_2, gm_k_int, gm_k_ref, gm_k_null, gm_k_u, gm_k_long, and_true, true_and, true_or, or_true, or_false, false_or, and_self, or_self, if_true, if_false, List.map_nil, List.map_cons, List.sum_nil, List.sum_cons, Nat.zero_le, Option.toList_some, Option.toList_none, List.cons_append, List.nil_append, ne_eq, not_false_eq_true, not_true_eq_false, nI_1, nI_add, Value.category, Nat.reduceAdd, Nat.reduceMod, Nat.reduceLeDiff, Nat.reduceLT, Nat.reduceEqDiff, Nat.reducePow, Nat.le_refl, Nat.add_left_cancel_iff, Nat.add_eq_left, Nat.left_eq_add, Nat.add_zero, e1, hd1]
      exact c82_148 (by simp) R2.1.1 (by omega) (x_fail (G := G) (α := Unit) (val := fun _ _ _ => True) R2) gx_fn (fun _ _ q => q.er (fun f e => by cases e; rw [er, if_neg hd1]; rfl) st2 (fun _ z => Or.inr z))
  by_cases t7 : t = 119 ∨ t = 122 ∨ t = 120
  · rw [if_pos t7] at hres
    rcases t7 with rfl | rfl | rfl
    · simp (decide := true) only [r82_0, r82_0n, r82_1, r82_5, r82_5n, r82_9, r82_84, r82_86, r82_87, r82_87n, r82_91, r82_92, r82_92n, r82_93, r82_93i, r82_94, r82_97, r82_98, r82_99, r82_102, r82_102n, r82_103, r82_104, r82_108, r82_108a, r82_108n, r82_109, r82_111, r82_112, r82_112n, r82_113, r82_117, r82_118, r82_118n, r82_122, r82_123, r82_123n, r82_124, r82_128, r82_129, r82_129n, r82_130, r82_134, r82_136, r82_137, r82_138, r82_141, r82_143, r82_146, r82_151, r82_152, r82_152n, r82_153, r82_158, r82_159, r82_159n, r82_160, r82_165, i32_10, reduceIte, gm_cmp1, gm_cmp3, gm_cmp4, gm_kd_sf, gm_ln_sf, gm_sf_1, gm_sf_2, gm_nw_1, gm_nw_2, gm_k_int, gm_k_ref, gm_k_null, gm_k_u, gm_k_long, and_true, true_and, true_or, or_true, or_false, false_or, and_self, or_self, if_true, if_false, List.map_nil, List.map_cons, List.sum_nil, List.sum_cons, Nat.zero_le, Option.toList_some, Option.toList_none, List.cons_append, List.nil_append, ne_eq, not_false_eq_true, not_true_eq_false, nI_1, nI_add, Value.category, Nat.reduceAdd, Nat.reduceMod, Nat.reduceLeDiff, Nat.reduceLT, Nat.reduceEqDiff, Nat.reducePow, Nat.le_refl, Nat.add_left_cancel_iff, Nat.add_eq_left, Nat.left_eq_add, Nat.add_zero]
      exact opt hres
    · simp (decide := true) only [r82_0, r82_0n, r82_1, r82_5, r82_5n, r82_9, r82_84, r82_86, r82_87, r82_87n, r82_91, r82_92, r82_92n, r82_93, r82_93i, r82_94, r82_97, r82_98, r82_99, r82_102, r82_102n, r82_103, r82_104, r82_108, r82_108a, r82_108n, r82_109, r82_111, r82_112, r82_112n, r82_113, r82_117, r82_118, r82_118n, r82_122, r82_123, r82_123n, r82_124, r82_128, r82_129, r82_129n, r82_130, r82_134, r82_136, r82_137, r82_138, r82_141, r82_143, r82_146, r82_151, r82_152, r82_152n, r82_153, r82_158, r82_159, r82_159n, r82_160, r82_165, i32_10, reduceIte, gm_cmp1, gm_cmp3, gm_cmp4, gm_kd_sf, gm_ln_sf, gm_sf_1, gm_sf_2, gm_nw_1, gm_nw_2, gm_k_int, gm_k_ref, gm_k_null, gm_k_u, gm_k_long, and_true, true_and, true_or, or_true, or_false, false_or, and_self, or_self, if_true, if_false, List.map_nil, List.map_cons, List.sum_nil, List.sum_cons, Nat.zero_le, Option.toList_some, Option.toList_none, List.cons_append, List.nil_append, ne_eq, not_false_eq_true, not_true_eq_false, nI_1, nI_add, Value.category, Nat.reduceAdd, Nat.reduceMod, Nat.reduceLeDiff, Nat.reduceLT, Nat.reduceEqDiff, Nat.reducePow, Nat.le_refl, Nat.add_left_cancel_iff, Nat.add_eq_left, Nat.left_eq_add, Nat.add_zero]
      exact opt hres
    · simp (decide := true) only [r82_0, r82_0n, r82_1, r82_5, r82_5n, r82_9, r82_84, r82_86, r82_87, r82_87n, r82_91, r82_92, r82_92n, r82_93, r82_93i, r82_94, r82_97, r82_98, r82_99, r82_102, r82_102n, r82_103, r82_104, r82_108, r82_108a, r82_108n, r82_109, r82_111, r82_112, r82_112n, r82_113, r82_117, r82_118, r82_118n, r82_122, r82_123, r82_123n, r82_124, r82_128, r82_129, r82_129n, r82_130, r82_134, r82_136, r82_137, r82_138, r82_141, r82_143, r82_146, r82_151, r82_152, r82_152n, r82_153, r82_158, r82_159, r82_159n, r82_160, r82_165, i32_10, reduceIte, gm_cmp1, gm_cmp3, gm_cmp4, gm_kd_sf, gm_ln_sf, gm_sf_1, gm_sf_2, gm_nw_1, gm_nw_2, gm_k_int, gm_k_ref, gm_k_null, gm_k_u, gm_k_long, and_true, true_and, true_or, or_true, or_false, false_or, and_self, or_self, if_true, if_false, List.map_nil, List.map_cons, List.sum_nil, List.sum_cons, Nat.zero_le, Option.toList_some, Option.toList_none, List.cons_append, List.nil_append, ne_eq, not_false_eq_true, not_true_eq_false, nI_1, nI_add, Value.category, Nat.reduceAdd, Nat.reduceMod, Nat.reduceLeDiff, Nat.reduceLT, Nat.reduceEqDiff, Nat.reducePow, Nat.le_refl, Nat.add_left_cancel_iff, Nat.add_eq_left, Nat.left_eq_add, Nat.add_zero]
      exact opt hres
  rw [if_neg t7] at hres
  have t71 : ¬ t = 119 := fun z => t7 (Or.inl z)
  have t72 : ¬ t = 122 := fun z => t7 (Or.inr (Or.inl z))
  have t73 : ¬ t = 120 := fun z => t7 (Or.inr (Or.inr z))
  by_cases t8 : t = 123
  · subst t8
    rw [if_pos rfl] at hres
    simp (decide := true) only [r82_0, r82_0n, r82_1, r82_5, r82_5n, r82_9, r82_84, r82_86, r82_87, r82_87n, r82_91, r82_92, r82_92n, r82_93, r82_93i, r82_94, r82_97, r82_98, r82_99, r82_102, r82_102n, r82_103, r82_104, r82_108, r82_108a, r82_108n, r82_109, r82_111, r82_112, r82_112n, r82_113, r82_117, r82_118, r82_118n, r82_122, r82_123, r82_123n, r82_124, r82_128, r82_129, r82_129n, r82_130, r82_134, r82_135, r82_135n, r82_136, r82_137, r82_138, r82_141, r82_143, r82_146, r82_151, r82_152, r82_152n, r82_153, r82_158, r82_159, r82_159n, r82_160, r82_165, i32_10, reduceIte, gm_cmp1, gm_cmp3, gm_cmp4, gm_kd_sf, gm_ln_sf, gm_sf_1, gm_sf_2, gm_nw_1, gm_nw_2, gm_k_int, gm_k_ref, gm_k_null, gm_k_u, gm_k_long, and_true, true_and, true_or, or_true, or_false, false_or, and_self, or_self, if_true, if_false, List.map_nil, List.map_cons, List.sum_nil, List.sum_cons, Nat.zero_le, Option.toList_some, Option.toList_none, List.cons_append, List.nil_append, ne_eq, not_false_eq_true, not_true_eq_false, nI_1, nI_add, Value.category, Nat.reduceAdd, Nat.reduceMod, Nat.reduceLeDiff, Nat.reduceLT, Nat.reduceEqDiff, Nat.reducePow, Nat.le_refl, Nat.add_left_cancel_iff, Nat.add_eq_left, Nat.left_eq_add, Nat.add_zero]
    exact c82_155 (by simp) R2.1.1 (by omega) (x_fail (G := G) (α := Unit) (val := fun _ _ _ => True) R2) gx_fn (fun _ _ q => q.er (fun f e => by cases e; rw [hres]; rfl) st2 (fun _ z => Or.inr z))
  rw [if_neg t8] at hres
  have fin : gm_W E d 82 159 [.ref x, .int (nI dp)] [] h2 (gx_P E h x ca K F G s (fun a _ v => v = some (.int a)) res) := by
    simp only [r82_0, r82_0n, r82_1, r82_5, r82_5n, r82_9, r82_84, r82_86, r82_87, r82_87n, r82_91, r82_92, r82_92n, r82_93, r82_93i, r82_94, r82_97, r82_98, r82_99, r82_102, r82_102n, r82_103, r82_104, r82_108, r82_108a, r82_108n, r82_109, r82_111, r82_112, r82_112n, r82_113, r82_117, r82_118, r82_118n, r82_122, r82_123, r82_123n, r82_124, r82_128, r82_129, r82_129n, r82_130, r82_134, r82_135, r82_135n, r82_136, r82_137, r82_138, r82_141, r82_143, r82_146, r82_151, r82_152, r82_152n, r82_153, r82_158, r82_159, r82_159n, r82_160, r82_165, i32_10, reduceIte, gm_cmp1, gm_cmp3, gm_cmp4, gm_kd_sf, gm_ln_sf, gm_sf_1, gm_sf_2, gm_nw_1, gm_nw_2, gm_k_int, gm_k_ref, gm_k_null, gm_k_u, gm_k_long, and_true, true_and, true_or, or_true, or_false, false_or, and_self, or_self, if_true, if_false, List.map_nil, List.map_cons, List.sum_nil, List.sum_cons, Nat.zero_le, Option.toList_some, Option.toList_none, List.cons_append, List.nil_append, ne_eq, not_false_eq_true, not_true_eq_false, nI_1, nI_add, Value.category, Nat.reduceAdd, Nat.reduceMod, Nat.reduceLeDiff, Nat.reduceLT, Nat.reduceEqDiff, Nat.reducePow, Nat.le_refl, Nat.add_left_cancel_iff, Nat.add_eq_left, Nat.left_eq_add, Nat.add_zero]
    exact c82_162 (by simp) R2.1.1 (by omega) (x_fail (G := G) (α := Unit) (val := fun _ _ _ => True) R2) gx_fn (fun _ _ q => q.er (fun f e => by cases e; rw [hres]; rfl) st2 (fun _ z => Or.inr z))
  simp only [r82_0, r82_0n, r82_1, r82_5, r82_5n, r82_9, r82_84, r82_86, r82_87, r82_87n, r82_91, r82_92, r82_92n, r82_93, r82_93i, r82_94, r82_97, r82_98, r82_99, r82_102, r82_102n, r82_103, r82_104, r82_108, r82_108a, r82_108n, r82_109, r82_111, r82_112, r82_112n, r82_113, r82_117, r82_118, r82_118n, r82_122, r82_123, r82_123n, r82_124, r82_128, r82_129, r82_129n, r82_130, r82_134, r82_135, r82_135n, r82_136, r82_137, r82_138, r82_141, r82_143, r82_146, r82_151, r82_152, r82_152n, r82_153, r82_158, r82_160, r82_165, i32_10, reduceIte, gm_cmp1, gm_cmp3, gm_cmp4, gm_kd_sf, gm_ln_sf, gm_sf_1, gm_sf_2, gm_nw_1, gm_nw_2, gm_k_int, gm_k_ref, gm_k_null, gm_k_u, gm_k_long, and_true, true_and, true_or, or_true, or_false, false_or, and_self, or_self, if_true, if_false, List.map_nil, List.map_cons, List.sum_nil, List.sum_cons, Nat.zero_le, Option.toList_some, Option.toList_none, List.cons_append, List.nil_append, ne_eq, not_false_eq_true, not_true_eq_false, nI_1, nI_add, Value.category, Nat.reduceAdd, Nat.reduceMod, Nat.reduceLeDiff, Nat.reduceLT, Nat.reduceEqDiff, Nat.reducePow, Nat.le_refl, Nat.add_left_cancel_iff, Nat.add_eq_left, Nat.left_eq_add, Nat.add_zero, t0, t1, t2, t3, t4, t5, t6, t71, t72, t73, t8, ite_self]
  exact fin
/-- a read at each depth -/
theorem x_readContent (hK : gs_kok K) : ∀ k, k ≤ 8 → gx_RC E x ca K (17 * k + 4) (9 - k) (gs_rc K k)
  | 0, _ => by
    intro d h s F G hd R hF
    show gm_W E d 82 0 [.ref x, .int (nI 9)] [] h _
    simp only [r82_0, r82_0n, r82_1, r82_5, r82_5n, r82_9, r82_84, r82_86, r82_87, r82_87n, r82_91, r82_92, r82_92n, r82_93, r82_93i, r82_94, r82_97, r82_98, r82_99, r82_102, r82_102n, r82_103, r82_104, r82_108, r82_108a, r82_108n, r82_109, r82_111, r82_112, r82_112n, r82_113, r82_117, r82_118, r82_118n, r82_122, r82_123, r82_123n, r82_124, r82_128, r82_129, r82_129n, r82_130, r82_134, r82_135, r82_135n, r82_136, r82_137, r82_138, r82_141, r82_143, r82_146, r82_151, r82_152, r82_152n, r82_153, r82_158, r82_159, r82_159n, r82_160, r82_165, i32_10, reduceIte, gm_cmp1, gm_cmp3, gm_cmp4, gm_kd_sf, gm_ln_sf, gm_sf_1, gm_sf_2, gm_nw_1, gm_nw_2, gm_k_int, gm_k_ref, gm_k_null, gm_k_u, gm_k_long, and_true, true_and, true_or, or_true, or_false, false_or, and_self, or_self, if_true, if_false, List.map_nil, List.map_cons, List.sum_nil, List.sum_cons, Nat.zero_le, Option.toList_some, Option.toList_none, List.cons_append, List.nil_append, ne_eq, not_false_eq_true, not_true_eq_false, nI_1, nI_add, Value.category, Nat.reduceAdd, Nat.reduceMod, Nat.reduceLeDiff, Nat.reduceLT, Nat.reduceEqDiff, Nat.reducePow, Nat.le_refl, Nat.add_left_cancel_iff, Nat.add_eq_left, Nat.left_eq_add, Nat.add_zero]
    refine c82_2 (by simp) R.1.1 (by omega) (x_askRoom (G := G) (by omega) (by decide) R) (fun v h1 q => ?_) (fun _ _ q => q.er (s := s) (h := h) (fun f e => ?_) ⟨gx_mv.refl, gx_le.refl, gx_co.refl⟩ (fun _ z => Or.inr z))
    · obtain ⟨_, s1, e1, -⟩ := q
      unfold gs_room at e1
      rw [if_pos (Or.inl (by decide))] at e1
      cases e1
    · unfold gs_room at e
      rw [if_pos (Or.inl (by decide))] at e
      cases e
      rfl
  | k + 1, hk => by
    intro d h s F G hd R hF
    have e : 8 - k + 1 = 9 - k := by omega
    have C := x_readContent hK k (by omega)
    rw [← e] at C
    have e2 : 9 - (k + 1) = 8 - k := by omega
    rw [e2]
    exact x_readContent1 C hK (by omega) (by omega) R hF
theorem x_readOutermost (hK : gs_kok K) (hd : 141 ≤ d) (R : gx_R E h x ca K F s) (hF : ∀ a, F a → a < h.1) : gm_Ca E d 81 [.ref x] h (gx_P E h x ca K F G s (fun a _ v => v = some (.int a)) (gs_out K s)) := by
  have C := x_readContent (E := E) (x := x) (ca := ca) hK 8 (by decide)
  have loop : ∀ (m : Nat) (s : gs_S) (h : gm_H), gs_n K < gs_pl s + m → gx_R E h x ca K F s → (∀ a, F a → a < h.1) → gm_W E d 81 5 [.ref x] [] h (gx_P E h x ca K F G s (fun a _ v => v = some (.int a)) (gs_b (gs_reset K m) (fun _ => gs_rc K 8) s)) := by
    intro m
    induction m with
    | zero =>
      intro s h hm R hF
      have := R.2.2.2.1.2.1
      omega
    | succ m ih =>
      intro s h hm R hF
      obtain ⟨A0, -, A5, -, A10, -, -, A2, A2l, -, -, A4, -⟩ := R.1
      obtain ⟨-, -, -, -, B6, B7, B8⟩ := R.2.1
      obtain ⟨z1, z2, z3, z4, z5, z6, z7, z8, z9⟩ := R.2.2.2.1
      have fin : gs_reset K (m + 1) s = .ok ((), s) → gm_W E d 81 64 [.ref x] [] h (gx_P E h x ca K F G s (fun a _ v => v = some (.int a)) (gs_b (gs_reset K (m + 1)) (fun _ => gs_rc K 8) s)) := by
        intro e
        rw [gs_b_ok e]
        simp only [r81_0, r81_0n, r81_1, r81_5, r81_5n, r81_6, r81_9, r81_9n, r81_10, r81_13, r81_16, r81_16n, r81_17, r81_20, r81_20n, r81_21, r81_24, r81_25, r81_27, r81_30, r81_30n, r81_31, r81_34, r81_34n, r81_35, r81_38, r81_41, r81_41n, r81_42, r81_45, r81_51, r81_51n, r81_52, r81_52i, r81_53, r81_56, r81_57, r81_58, r81_61, r81_64, r81_64n, r81_65, r81_69, i32_10, reduceIte, gm_cmp1, gm_cmp3, gm_cmp4, gm_kd_sf, gm_ln_sf, gm_sf_1, gm_sf_2, gm_nw_1, gm_nw_2, gm_k_int, gm_k_ref, gm_k_null, gm_k_u, gm_k_long, and_true, true_and, true_or, or_true, or_false, false_or, and_self, or_self, if_true, if_false, List.map_nil, List.map_cons, List.sum_nil, List.sum_cons, Nat.zero_le, Option.toList_some, Option.toList_none, List.cons_append, List.nil_append, ne_eq, not_false_eq_true, not_true_eq_false, nI_1, nI_add, Value.category, Nat.reduceAdd, Nat.reduceMod, Nat.reduceLeDiff, Nat.reduceLT, Nat.reduceEqDiff, Nat.reducePow, Nat.le_refl, Nat.add_left_cancel_iff, Nat.add_eq_left, Nat.left_eq_add, Nat.add_zero]
        refine c81_66 (by simp) A0 (by omega) (C (d - 1) h s F G (by omega) R hF) (fun v h1 q => ?_) (fun _ _ q => q)
        obtain ⟨v, s1, e1, rfl, q⟩ := q
        simp only [r81_0, r81_0n, r81_1, r81_5, r81_5n, r81_6, r81_9, r81_9n, r81_10, r81_13, r81_16, r81_16n, r81_17, r81_20, r81_20n, r81_21, r81_24, r81_25, r81_27, r81_30, r81_30n, r81_31, r81_34, r81_34n, r81_35, r81_38, r81_41, r81_41n, r81_42, r81_45, r81_51, r81_51n, r81_52, r81_52i, r81_53, r81_56, r81_57, r81_58, r81_61, r81_64, r81_64n, r81_65, r81_69, i32_10, reduceIte, gm_cmp1, gm_cmp3, gm_cmp4, gm_kd_sf, gm_ln_sf, gm_sf_1, gm_sf_2, gm_nw_1, gm_nw_2, gm_k_int, gm_k_ref, gm_k_null, gm_k_u, gm_k_long, and_true, true_and, true_or, or_true, or_false, false_or, and_self, or_self, if_true, if_false, List.map_nil, List.map_cons, List.sum_nil, List.sum_cons, Nat.zero_le, Option.toList_some, Option.toList_none, List.cons_append, List.nil_append, ne_eq, not_false_eq_true, not_true_eq_false, nI_1, nI_add, Value.category, Nat.reduceAdd, Nat.reduceMod, Nat.reduceLeDiff, Nat.reduceLT, Nat.reduceEqDiff, Nat.reducePow, Nat.le_refl, Nat.add_left_cancel_iff, Nat.add_eq_left, Nat.left_eq_add, Nat.add_zero]
        exact ⟨v, s1, e1, rfl, q⟩
      rw [r81_5]
      by_cases hp : gs_pl s < gs_n K
      · have hp7 : gs_pl s < 700 := by omega
        by_cases hb : gs_sb K (gs_pl s) = 121
        · simp only [r81_0, r81_0n, r81_1, r81_6, r81_9, r81_9n, r81_10, r81_13, r81_16, r81_16n, r81_17, r81_20, r81_20n, r81_21, r81_24, r81_25, r81_27, r81_30, r81_30n, r81_31, r81_34, r81_34n, r81_35, r81_38, r81_41, r81_41n, r81_42, r81_45, r81_51, r81_51n, r81_52, r81_52i, r81_53, r81_56, r81_57, r81_58, r81_61, r81_65, r81_69, i32_10, reduceIte, gm_cmp1, gm_cmp3, gm_cmp4, gm_kd_sf, gm_ln_sf, gm_sf_1, gm_sf_2, gm_nw_1, gm_nw_2, gm_k_int, gm_k_ref, gm_k_null, gm_k_u, gm_k_long, and_true, true_and, true_or, or_true, or_false, false_or, and_self, or_self, if_true, if_false, List.map_nil, List.map_cons, List.sum_nil, List.sum_cons, Nat.zero_le, Option.toList_some, Option.toList_none, List.cons_append, List.nil_append, ne_eq, not_false_eq_true, not_true_eq_false, nI_1, nI_add, Value.category, Nat.reduceAdd, Nat.reduceMod, Nat.reduceLeDiff, Nat.reduceLT, Nat.reduceEqDiff, Nat.reducePow, Nat.le_refl, Nat.add_left_cancel_iff, Nat.add_eq_left, Nat.left_eq_add, Nat.add_zero, A0, z1, B6, nI_leF hp (show gs_n K < 2 ^ 31 by omega), A5, A2, A2l, hp7, B8 _ hp, hb, A10, A4, z6]
          refine c81_48 (by simp) A4 (by omega) (x_rewind (x := x + 4) (f := 0) (m := 0) (hk := A4) _ _) (gx_kn ?_) gx_kx
          have R1 := R.rew (m := (gs_hs s).length) rfl
          have z11 := R1.2.2.2.1.1
          simp only [r81_0, r81_0n, r81_1, r81_6, r81_9, r81_9n, r81_10, r81_13, r81_16, r81_16n, r81_17, r81_20, r81_20n, r81_21, r81_24, r81_25, r81_27, r81_30, r81_30n, r81_31, r81_34, r81_34n, r81_35, r81_38, r81_41, r81_41n, r81_42, r81_45, r81_51, r81_51n, r81_52, r81_52i, r81_53, r81_56, r81_57, r81_58, r81_61, r81_65, r81_69, i32_10, reduceIte, gm_cmp1, gm_cmp3, gm_cmp4, gm_kd_sf, gm_ln_sf, gm_sf_1, gm_sf_2, gm_nw_1, gm_nw_2, gm_k_int, gm_k_ref, gm_k_null, gm_k_u, gm_k_long, and_true, true_and, true_or, or_true, or_false, false_or, and_self, or_self, if_true, if_false, List.map_nil, List.map_cons, List.sum_nil, List.sum_cons, Nat.zero_le, Option.toList_some, Option.toList_none, List.cons_append, List.nil_append, ne_eq, not_false_eq_true, not_true_eq_false, nI_1, nI_add, Value.category, Nat.reduceAdd, Nat.reduceMod, Nat.reduceLeDiff, Nat.reduceLT, Nat.reduceEqDiff, Nat.reducePow, Nat.le_refl, Nat.add_left_cancel_iff, Nat.add_eq_left, Nat.left_eq_add, Nat.add_zero, R1.1.1, z11]
          have e : gs_b (gs_reset K (m + 1)) (fun _ => gs_rc K 8) s = gs_b (gs_reset K m) (fun _ => gs_rc K 8) (gs_pl s + 1, gs_hp s, gs_hs s, (gs_hs s).length) := by
            refine gs_b_cg ?_
            conv => lhs; unfold gs_reset
            rw [if_pos ⟨hp, hb⟩]
          rw [e]
          have R2 := R1.place (p := gs_pl s + 1) (by omega)
          refine gm_W.mono (ih (gs_pl s + 1, gs_hp s, gs_hs s, (gs_hs s).length) _ (by show gs_n K < gs_pl s + 1 + m; omega) R2 (fun a z => by simp only [gm_sf_1]; exact hF a z)) (fun r h' w => w.reb ((gx_mv.cnt.tr gx_mv.cnt).tr (gx_mv.fld (by decide))) ⟨Nat.le_refl _, Nat.le_refl _⟩ ?_ (fun _ z => Or.inr z))
          unfold gx_co
          simp only [gm_sf_1, gm_sf_2]
          show h.1 + gs_pl s ≤ h.1 + (gs_pl s + 1) ∧ h.2.1 + 8 * gs_pl s ≤ h.2.1 + 8 * (gs_pl s + 1)
          omega
        · simp only [r81_0, r81_0n, r81_1, r81_6, r81_9, r81_9n, r81_10, r81_13, r81_16, r81_16n, r81_17, r81_20, r81_20n, r81_21, r81_24, r81_25, r81_27, r81_30, r81_30n, r81_31, r81_34, r81_34n, r81_35, r81_38, r81_41, r81_41n, r81_42, r81_45, r81_51, r81_51n, r81_52, r81_52i, r81_53, r81_56, r81_57, r81_58, r81_61, r81_65, r81_69, i32_10, reduceIte, gm_cmp1, gm_cmp3, gm_cmp4, gm_kd_sf, gm_ln_sf, gm_sf_1, gm_sf_2, gm_nw_1, gm_nw_2, gm_k_int, gm_k_ref, gm_k_null, gm_k_u, gm_k_long, and_true, true_and, true_or, or_true, or_false, false_or, and_self, or_self, if_true, if_false, List.map_nil, List.map_cons, List.sum_nil, List.sum_cons, Nat.zero_le, Option.toList_some, Option.toList_none, List.cons_append, List.nil_append, ne_eq, not_false_eq_true, not_true_eq_false, nI_1, nI_add, Value.category, Nat.reduceAdd, Nat.reduceMod, Nat.reduceLeDiff, Nat.reduceLT, Nat.reduceEqDiff, Nat.reducePow, Nat.le_refl, Nat.add_left_cancel_iff, Nat.add_eq_left, Nat.left_eq_add, Nat.add_zero, A0, z1, B6, nI_leF hp (show gs_n K < 2 ^ 31 by omega), A5, A2, A2l, hp7, B8 _ hp, hb]
          exact fin (by conv => lhs; unfold gs_reset
                        rw [if_neg (fun z => hb z.2)])
      · simp only [r81_0, r81_0n, r81_1, r81_6, r81_9, r81_9n, r81_10, r81_13, r81_16, r81_16n, r81_17, r81_20, r81_20n, r81_21, r81_24, r81_25, r81_27, r81_30, r81_30n, r81_31, r81_34, r81_34n, r81_35, r81_38, r81_41, r81_41n, r81_42, r81_45, r81_51, r81_51n, r81_52, r81_52i, r81_53, r81_56, r81_57, r81_58, r81_61, r81_65, r81_69, i32_10, reduceIte, gm_cmp1, gm_cmp3, gm_cmp4, gm_kd_sf, gm_ln_sf, gm_sf_1, gm_sf_2, gm_nw_1, gm_nw_2, gm_k_int, gm_k_ref, gm_k_null, gm_k_u, gm_k_long, and_true, true_and, true_or, or_true, or_false, false_or, and_self, or_self, if_true, if_false, List.map_nil, List.map_cons, List.sum_nil, List.sum_cons, Nat.zero_le, Option.toList_some, Option.toList_none, List.cons_append, List.nil_append, ne_eq, not_false_eq_true, not_true_eq_false, nI_1, nI_add, Value.category, Nat.reduceAdd, Nat.reduceMod, Nat.reduceLeDiff, Nat.reduceLT, Nat.reduceEqDiff, Nat.reducePow, Nat.le_refl, Nat.add_left_cancel_iff, Nat.add_eq_left, Nat.left_eq_add, Nat.add_zero, A0, z1, B6, nI_leT (show gs_n K ≤ gs_pl s by omega) (show gs_pl s < 2 ^ 31 by omega)]
        exact fin (by conv => lhs; unfold gs_reset
                      rw [if_neg (fun z => hp z.1)])
  show gm_W E d 81 0 [.ref x] [] h _
  simp only [r81_0, r81_0n, r81_1, r81_5, r81_5n, r81_6, r81_9, r81_9n, r81_10, r81_13, r81_16, r81_16n, r81_17, r81_20, r81_20n, r81_21, r81_24, r81_25, r81_27, r81_30, r81_30n, r81_31, r81_34, r81_34n, r81_35, r81_38, r81_41, r81_41n, r81_42, r81_45, r81_51, r81_51n, r81_52, r81_52i, r81_53, r81_56, r81_57, r81_58, r81_61, r81_64, r81_64n, r81_65, r81_69, i32_10, reduceIte, gm_cmp1, gm_cmp3, gm_cmp4, gm_kd_sf, gm_ln_sf, gm_sf_1, gm_sf_2, gm_nw_1, gm_nw_2, gm_k_int, gm_k_ref, gm_k_null, gm_k_u, gm_k_long, and_true, true_and, true_or, or_true, or_false, false_or, and_self, or_self, if_true, if_false, List.map_nil, List.map_cons, List.sum_nil, List.sum_cons, Nat.zero_le, Option.toList_some, Option.toList_none, List.cons_append, List.nil_append, ne_eq, not_false_eq_true, not_true_eq_false, nI_1, nI_add, Value.category, Nat.reduceAdd, Nat.reduceMod, Nat.reduceLeDiff, Nat.reduceLT, Nat.reduceEqDiff, Nat.reducePow, Nat.le_refl, Nat.add_left_cancel_iff, Nat.add_eq_left, Nat.left_eq_add, Nat.add_zero]
  unfold gs_out
  refine c81_2 (by simp) R.1.1 (by omega) (x_askRoom (dp := 1) (by omega) (by decide) R) (fun v h1 q => ?_) (fun _ _ q => q.ber)
  obtain ⟨_, s1, e1, ⟨rfl, na1⟩, R1, mv1, le1, co1⟩ := q
  refine gm_W.mono ?_ (fun r h' q => gx_P.bnd q e1 mv1 le1 co1)
  have := R1.2.1.2.2.2.2.2.1
  exact loop 701 s1 h1 (by omega) R1 (fun a z => by have := hF a z; have := mv1.1.1; omega)
end Z2
/-! THE CLASS, 20: read, from outside. -/
/-- the whole object: what a read leaves alone, place and heap and handles, the fault that lasts -/
def gx_X (E : Nat → Value) (h : gm_H) (x : Nat) (ca : Nat → Nat) (K : gs_K) (s : gs_S) (lf : Int32) : Prop := gx_R E h x ca K (fun _ => False) s ∧ gm_fv h x 11 = .int lf
def gs_read (K : gs_K) (s : gs_S) (lf : Int32) : Int32 × gs_S × Int32 := if lf ≠ 0 then (lf, s, lf) else match gs_out K s with
  | .ok q => (q.1, q.2, 0)
  | .error f => (f, s, if f = -7 then 0 else f)
section Z3
variable {E : Nat → Value} {d x : Nat} {h h1 : gm_H} {ca : Nat → Nat} {K : gs_K} {F G : Nat → Prop} {s : gs_S} {lf f : Int32}
/-- all put back as it was -/
theorem gx_R.back (R : gx_R E h x ca K F s) (E1 : gx_E h1 x K f) (mv : gx_mv h h1 x (fun _ => False) s) : gx_R E (gm_sf (gm_sf (gm_sf (gm_sf h1 x 7 (.int (nI (gs_pl s)))) x 9 (.int (nI (gs_hp s).length))) (x + 4) 2 (.int (nI (gs_f1 s)))) (x + 4) 3 (.int (nI (gs_hs s).length))) x ca K F s := by
  obtain ⟨A, B, f12⟩ := E1
  have l0 : gm_ln h1 x = 13 := gm_kd_ln A.1 (by decide)
  have l4 : gm_ln h1 (x + 4) = 4 := gm_kd_ln A.2.2.2.2.2.2.2.2.2.2.2.1 (by decide)
  have hf : ∀ b j, (b ≠ x ∨ (j ≠ 7 ∧ j ≠ 9)) → (b ≠ x + 4 ∨ (j ≠ 2 ∧ j ≠ 3)) → gm_fv (gm_sf (gm_sf (gm_sf (gm_sf h1 x 7 (.int (nI (gs_pl s)))) x 9 (.int (nI (gs_hp s).length))) (x + 4) 2 (.int (nI (gs_f1 s)))) (x + 4) 3 (.int (nI (gs_hs s).length))) b j = gm_fv h1 b j := by
    intro b j h0 h4
    have e1 : ∀ (hh : gm_H) (k : Nat) (v : Value), (k = 2 ∨ k = 3) → gm_fv (gm_sf hh (x + 4) k v) b j = gm_fv hh b j := fun hh k v hk => by
      rcases h4 with z | z
      · exact gm_fv_sfa z
      · exact gm_fv_sfj (by omega)
    have e2 : ∀ (hh : gm_H) (k : Nat) (v : Value), (k = 7 ∨ k = 9) → gm_fv (gm_sf hh x k v) b j = gm_fv hh b j := fun hh k v hk => by
      rcases h0 with z | z
      · exact gm_fv_sfa z
      · exact gm_fv_sfj (by omega)
    rw [e1 _ _ _ (Or.inr rfl), e1 _ _ _ (Or.inl rfl), e2 _ _ _ (Or.inr rfl), e2 _ _ _ (Or.inl rfl)]
  have g : gx_ag h (gm_sf (gm_sf (gm_sf (gm_sf h1 x 7 (.int (nI (gs_pl s)))) x 9 (.int (nI (gs_hp s).length))) (x + 4) 2 (.int (nI (gs_f1 s)))) (x + 4) 3 (.int (nI (gs_hs s).length))) x F := (((mv.1.wk (fun _ z => z.elim)).trans (gx_ag.sf (gx_ok.no (by omega)))).trans (gx_ag.sf (gx_ok.no (by omega)))).trans (gx_ag.sf (gx_ok.no (by omega))) |>.trans (gx_ag.sf (gx_ok.no (by omega)))
  obtain ⟨z1, z2, z3, z4, z5, z6, z7, z8, z9⟩ := R.2.2.2.1
  refine R.own g ?_ ?_ (fun c _ => by rw [hf _ _ (Or.inl (by omega)) (Or.inl (by omega))]; exact mv.2.1 c) ⟨?_, z2, ?_, z4, ?_, ?_, z7, z8, f, ?_⟩ (fun i hi => by rw [hf _ _ (Or.inl (by omega)) (Or.inl (by omega))]; exact mv.2.2.2.1 i hi) (fun i hi => by rw [hf _ _ (Or.inl (by omega)) (Or.inl (by omega)), hf _ _ (Or.inl (by omega)) (Or.inl (by omega))]; exact mv.2.2.2.2 i hi) rfl rfl
  · unfold gx_A at A ⊢
    simp only [gm_kd_sf, gm_ln_sf, gm_sf_1, hf x 4 (Or.inr (by decide)) (Or.inl (by omega)), hf x 5 (Or.inr (by decide)) (Or.inl (by omega)), hf x 8 (Or.inr (by decide)) (Or.inl (by omega)), hf x 10 (Or.inr (by decide)) (Or.inl (by omega)), hf (x + 4) 0 (Or.inl (by omega)) (Or.inr (by decide)), hf (x + 4) 1 (Or.inl (by omega)) (Or.inr (by decide))]
    exact A
  · unfold gx_B at B ⊢
    simp only [hf x 0 (Or.inr (by decide)) (Or.inl (by omega)), hf x 1 (Or.inr (by decide)) (Or.inl (by omega)), hf x 2 (Or.inr (by decide)) (Or.inl (by omega)), hf x 3 (Or.inr (by decide)) (Or.inl (by omega)), hf x 6 (Or.inr (by decide)) (Or.inl (by omega)), hf (x + 2) _ (Or.inl (by omega)) (Or.inl (by omega))]
    exact B
  · rw [gm_fv_sfa (by omega), gm_fv_sfa (by omega), gm_fv_sfj (by decide), gm_fv_sf (by omega)]
  · rw [gm_fv_sfa (by omega), gm_fv_sfa (by omega), gm_fv_sf (by simp only [gm_ln_sf]; omega)]
  · rw [gm_fv_sfj (by decide), gm_fv_sf (by simp only [gm_ln_sf]; omega)]
  · rw [gm_fv_sf (by simp only [gm_ln_sf]; omega)]
  · rw [hf _ _ (Or.inr (by decide)) (Or.inl (by omega))]; exact f12
theorem gx_R.last {v : Int32} (R : gx_R E h x ca K F s) : gx_R E (gm_sf h x 11 (.int v)) x ca K F s := by
  have e : ∀ i, 0 < i → x + i ≠ x := fun i hi => by omega
  refine R.fld (Or.inr (Or.inl rfl)) ?_ rfl rfl
  obtain ⟨z1, z2, z3, z4, z5, z6, z7, z8, z9⟩ := R.2.2.2.1
  refine ⟨?_, z2, ?_, z4, ?_, ?_, z7, z8, ?_⟩
  · rw [gm_fv_sfj (by decide)]; exact z1
  · rw [gm_fv_sfj (by decide)]; exact z3
  · rw [gm_fv_sfa (e 4 (by decide))]; exact z5
  · rw [gm_fv_sfa (e 4 (by decide))]; exact z6
  · rw [gm_fv_sfj (by decide)]; exact z9
theorem x_read (hK : gs_kok K) (hd : 143 ≤ d) (X : gx_X E h x ca K s lf) : gm_Ca E d 57 [.ref x] h (fun r h' => r = .inl (some (.int (gs_read K s lf).1)) ∧ gx_X E h' x ca K (gs_read K s lf).2.1 (gs_read K s lf).2.2 ∧ h'.1 ≤ h.1 + 710 ∧ h'.2.1 ≤ h.2.1 + 5700) := by
  obtain ⟨R, f11⟩ := X
  obtain ⟨A0, -, -, -, A10, -, -, -, -, -, -, A4, -⟩ := R.1
  obtain ⟨z1, z2, z3, z4, z5, z6, z7, z8, z9⟩ := R.2.2.2.1
  have hn7 := R.2.1.2.2.2.2.2.1
  show gm_W E d 57 0 [.ref x, gm_u, gm_u, gm_u, gm_u, gm_u] [] h _
  unfold gs_read
  by_cases h0 : lf = 0
  · subst h0
    rw [if_neg (fun z => z rfl)]
    simp only [r57_0, r57_0n, r57_1, r57_4, r57_7, r57_7n, r57_8, r57_11, r57_12, r57_12n, r57_13, r57_16, r57_17, r57_17n, r57_18, r57_21, r57_22, r57_22n, r57_23, r57_26, r57_29, r57_30, r57_30n, r57_31, r57_34, r57_37, r57_39, r57_39n, r57_43, r57_44, r57_44n, r57_46, r57_46n, r57_47, r57_48, r57_51, r57_51n, r57_52, r57_53, r57_56, r57_56n, r57_57, r57_60, r57_61, r57_66, r57_66n, r57_67, r57_70, r57_72, r57_75, r57_75n, r57_76, r57_76n, r57_77, r57_80, r57_83, r57_83n, r57_84, r57_87, i32_10, reduceIte, gm_cmp1, gm_cmp3, gm_cmp4, gm_kd_sf, gm_ln_sf, gm_sf_1, gm_sf_2, gm_nw_1, gm_nw_2, gm_k_int, gm_k_ref, gm_k_null, gm_k_u, gm_k_long, and_true, true_and, true_or, or_true, or_false, false_or, and_self, or_self, if_true, if_false, List.map_nil, List.map_cons, List.sum_nil, List.sum_cons, Nat.zero_le, Option.toList_some, Option.toList_none, List.cons_append, List.nil_append, ne_eq, not_false_eq_true, not_true_eq_false, nI_1, nI_add, Value.category, Nat.reduceAdd, Nat.reduceMod, Nat.reduceLeDiff, Nat.reduceLT, Nat.reduceEqDiff, Nat.reducePow, Nat.le_refl, Nat.add_left_cancel_iff, Nat.add_eq_left, Nat.left_eq_add, Nat.add_zero, A0, f11, z1, z3, A10, A4, z5, z6]
    refine c57_40 (by simp) A0 (by omega) (x_readOutermost (G := fun _ => False) hK (by omega) R (fun _ z => z.elim)) (fun v h1 q => ?_) (fun a h1 q => ?_)
    · obtain ⟨v, s1, e1, rfl, R1, mv1, le1, co1⟩ := q
      rw [e1]
      simp only [r57_0, r57_0n, r57_1, r57_4, r57_7, r57_7n, r57_8, r57_11, r57_12, r57_12n, r57_13, r57_16, r57_17, r57_17n, r57_18, r57_21, r57_22, r57_22n, r57_23, r57_26, r57_29, r57_30, r57_30n, r57_31, r57_34, r57_37, r57_39, r57_39n, r57_43, r57_44, r57_44n, r57_46, r57_46n, r57_47, r57_48, r57_51, r57_51n, r57_52, r57_53, r57_56, r57_56n, r57_57, r57_60, r57_61, r57_66, r57_66n, r57_67, r57_70, r57_72, r57_75, r57_75n, r57_76, r57_76n, r57_77, r57_80, r57_83, r57_83n, r57_84, r57_87, i32_10, reduceIte, gm_cmp1, gm_cmp3, gm_cmp4, gm_kd_sf, gm_ln_sf, gm_sf_1, gm_sf_2, gm_nw_1, gm_nw_2, gm_k_int, gm_k_ref, gm_k_null, gm_k_u, gm_k_long, and_true, true_and, true_or, or_true, or_false, false_or, and_self, or_self, if_true, if_false, List.map_nil, List.map_cons, List.sum_nil, List.sum_cons, Nat.zero_le, Option.toList_some, Option.toList_none, List.cons_append, List.nil_append, ne_eq, not_false_eq_true, not_true_eq_false, nI_1, nI_add, Value.category, Nat.reduceAdd, Nat.reduceMod, Nat.reduceLeDiff, Nat.reduceLT, Nat.reduceEqDiff, Nat.reducePow, Nat.le_refl, Nat.add_left_cancel_iff, Nat.add_eq_left, Nat.left_eq_add, Nat.add_zero]
      have z12 := R1.2.2.2.1.2.1
      refine ⟨⟨R1, mv1.2.2.1.trans f11⟩, ?_⟩
      obtain ⟨a1, b1⟩ := co1
      omega
    · obtain ⟨f, e1, E1, mv1, cx1⟩ := q
      rw [e1]
      obtain ⟨cx1, cx2⟩ := cx1
      have RB := R.back E1 mv1
      obtain ⟨A, B, f12⟩ := E1
      have k0 := A.1
      have k4 := A.2.2.2.2.2.2.2.2.2.2.2.1
      have f10 := A.2.2.2.2.1
      have l0 : gm_ln h1 x = 13 := gm_kd_ln A.1 (by decide)
      have n10 : (10 : Nat) ≠ 7 := by decide
      have n109 : (10 : Nat) ≠ 9 := by decide
      simp only [r57_0, r57_0n, r57_1, r57_4, r57_7, r57_7n, r57_8, r57_11, r57_12, r57_12n, r57_13, r57_16, r57_17, r57_17n, r57_18, r57_21, r57_22, r57_22n, r57_23, r57_26, r57_29, r57_30, r57_30n, r57_31, r57_34, r57_37, r57_39, r57_39n, r57_43, r57_44, r57_44n, r57_46, r57_46n, r57_47, r57_48, r57_51, r57_51n, r57_52, r57_53, r57_56, r57_56n, r57_57, r57_60, r57_61, r57_66, r57_66n, r57_67, r57_70, r57_72, r57_75, r57_75n, r57_76, r57_76n, r57_77, r57_80, r57_83, r57_83n, r57_84, r57_87, i32_10, reduceIte, gm_cmp1, gm_cmp3, gm_cmp4, gm_kd_sf, gm_ln_sf, gm_sf_1, gm_sf_2, gm_nw_1, gm_nw_2, gm_k_int, gm_k_ref, gm_k_null, gm_k_u, gm_k_long, and_true, true_and, true_or, or_true, or_false, false_or, and_self, or_self, if_true, if_false, List.map_nil, List.map_cons, List.sum_nil, List.sum_cons, Nat.zero_le, Option.toList_some, Option.toList_none, List.cons_append, List.nil_append, ne_eq, not_false_eq_true, not_true_eq_false, nI_1, nI_add, Value.category, Nat.reduceAdd, Nat.reduceMod, Nat.reduceLeDiff, Nat.reduceLT, Nat.reduceEqDiff, Nat.reducePow, Nat.le_refl, Nat.add_left_cancel_iff, Nat.add_eq_left, Nat.left_eq_add, Nat.add_zero, k0, gm_fv_sfj n10, gm_fv_sfj n109, f10]
      refine c57_63 (by simp) (by simp only [gm_kd_sf]; exact k4) (by omega) (x_rewind (x := x + 4) (f := 0) (m := 0) (hk := by simp only [gm_kd_sf]; exact k4) _ _) (gx_kn ?_) gx_kx
      obtain ⟨hB, hBe⟩ : ∃ hB, hB = gm_sf (gm_sf (gm_sf (gm_sf h1 x 7 (.int (nI (gs_pl s)))) x 9 (.int (nI (gs_hp s).length))) (x + 4) 2 (.int (nI (gs_f1 s)))) (x + 4) 3 (.int (nI (gs_hs s).length)) := ⟨_, rfl⟩
      rw [← hBe]
      rw [← hBe] at RB
      have kB := RB.1.1
      have fB12 : gm_fv hB x 12 = .int f := by
        rw [hBe, gm_fv_sfa (by omega), gm_fv_sfa (by omega), gm_fv_sfj (by decide), gm_fv_sfj (by decide)]
        exact f12
      have fB11 : gm_fv hB x 11 = .int 0 := by
        rw [hBe, gm_fv_sfa (by omega), gm_fv_sfa (by omega), gm_fv_sfj (by decide), gm_fv_sfj (by decide), mv1.2.2.1]
        exact f11
      have cB : hB.1 = h1.1 ∧ hB.2.1 = h1.2.1 := by rw [hBe]; simp only [gm_sf_1, gm_sf_2, and_self]
      have lB : gm_ln hB x = 13 := RB.len.1
      by_cases hf : f = -7
      · simp only [r57_0, r57_0n, r57_1, r57_4, r57_7, r57_7n, r57_8, r57_11, r57_12, r57_12n, r57_13, r57_16, r57_17, r57_17n, r57_18, r57_21, r57_22, r57_22n, r57_23, r57_26, r57_29, r57_30, r57_30n, r57_31, r57_34, r57_37, r57_39, r57_39n, r57_43, r57_44, r57_44n, r57_46, r57_46n, r57_47, r57_48, r57_51, r57_51n, r57_52, r57_53, r57_56, r57_56n, r57_57, r57_60, r57_61, r57_66, r57_66n, r57_67, r57_70, r57_72, r57_75, r57_75n, r57_76, r57_76n, r57_77, r57_80, r57_83, r57_83n, r57_84, r57_87, i32_10, reduceIte, gm_cmp1, gm_cmp3, gm_cmp4, gm_kd_sf, gm_ln_sf, gm_sf_1, gm_sf_2, gm_nw_1, gm_nw_2, gm_k_int, gm_k_ref, gm_k_null, gm_k_u, gm_k_long, and_true, true_and, true_or, or_true, or_false, false_or, and_self, or_self, if_true, if_false, List.map_nil, List.map_cons, List.sum_nil, List.sum_cons, Nat.zero_le, Option.toList_some, Option.toList_none, List.cons_append, List.nil_append, ne_eq, not_false_eq_true, not_true_eq_false, nI_1, nI_add, Value.category, Nat.reduceAdd, Nat.reduceMod, Nat.reduceLeDiff, Nat.reduceLT, Nat.reduceEqDiff, Nat.reducePow, Nat.le_refl, Nat.add_left_cancel_iff, Nat.add_eq_left, Nat.left_eq_add, Nat.add_zero, kB, fB12, hf]
        refine ⟨⟨RB, fB11⟩, ?_⟩
        omega
      · have n12 : (12 : Nat) ≠ 11 := by decide
        simp only [r57_0, r57_0n, r57_1, r57_4, r57_7, r57_7n, r57_8, r57_11, r57_12, r57_12n, r57_13, r57_16, r57_17, r57_17n, r57_18, r57_21, r57_22, r57_22n, r57_23, r57_26, r57_29, r57_30, r57_30n, r57_31, r57_34, r57_37, r57_39, r57_39n, r57_43, r57_44, r57_44n, r57_46, r57_46n, r57_47, r57_48, r57_51, r57_51n, r57_52, r57_53, r57_56, r57_56n, r57_57, r57_60, r57_61, r57_66, r57_66n, r57_67, r57_70, r57_72, r57_75, r57_75n, r57_76, r57_76n, r57_77, r57_80, r57_83, r57_83n, r57_84, r57_87, i32_10, reduceIte, gm_cmp1, gm_cmp3, gm_cmp4, gm_kd_sf, gm_ln_sf, gm_sf_1, gm_sf_2, gm_nw_1, gm_nw_2, gm_k_int, gm_k_ref, gm_k_null, gm_k_u, gm_k_long, and_true, true_and, true_or, or_true, or_false, false_or, and_self, or_self, if_true, if_false, List.map_nil, List.map_cons, List.sum_nil, List.sum_cons, Nat.zero_le, Option.toList_some, Option.toList_none, List.cons_append, List.nil_append, ne_eq, not_false_eq_true, not_true_eq_false, nI_1, nI_add, Value.category, Nat.reduceAdd, Nat.reduceMod, Nat.reduceLeDiff, Nat.reduceLT, Nat.reduceEqDiff, Nat.reducePow, Nat.le_refl, Nat.add_left_cancel_iff, Nat.add_eq_left, Nat.left_eq_add, Nat.add_zero, kB, fB12, hf, gm_fv_sfj n12]
        refine ⟨⟨RB.last, gm_fv_sf (by omega)⟩, ?_⟩
        omega
  · rw [if_pos h0]
    simp only [r57_0, r57_0n, r57_1, r57_4, r57_7, r57_7n, r57_8, r57_11, r57_12, r57_12n, r57_13, r57_16, r57_17, r57_17n, r57_18, r57_21, r57_22, r57_22n, r57_23, r57_26, r57_29, r57_30, r57_30n, r57_31, r57_34, r57_37, r57_39, r57_39n, r57_43, r57_44, r57_44n, r57_46, r57_46n, r57_47, r57_48, r57_51, r57_51n, r57_52, r57_53, r57_56, r57_56n, r57_57, r57_60, r57_61, r57_66, r57_66n, r57_67, r57_70, r57_72, r57_75, r57_75n, r57_76, r57_76n, r57_77, r57_80, r57_83, r57_83n, r57_84, r57_87, i32_10, reduceIte, gm_cmp1, gm_cmp3, gm_cmp4, gm_kd_sf, gm_ln_sf, gm_sf_1, gm_sf_2, gm_nw_1, gm_nw_2, gm_k_int, gm_k_ref, gm_k_null, gm_k_u, gm_k_long, and_true, true_and, true_or, or_true, or_false, false_or, and_self, or_self, if_true, if_false, List.map_nil, List.map_cons, List.sum_nil, List.sum_cons, Nat.zero_le, Option.toList_some, Option.toList_none, List.cons_append, List.nil_append, ne_eq, not_false_eq_true, not_true_eq_false, nI_1, nI_add, Value.category, Nat.reduceAdd, Nat.reduceMod, Nat.reduceLeDiff, Nat.reduceLT, Nat.reduceEqDiff, Nat.reducePow, Nat.le_refl, Nat.add_left_cancel_iff, Nat.add_eq_left, Nat.left_eq_add, Nat.add_zero, A0, f11, h0]
    refine ⟨⟨R, f11⟩, ?_⟩
    omega
end Z3
/-! THE CLASS, 21: count, object, value, begin. -/
def gs_count (K : gs_K) (s : gs_S) (lf : Int32) (w : Int32) : Int32 := if w = 0 then nI (gs_pl s) else if w = 1 then nI (gs_size s) else if w = 2 then nI (gs_hp s).length else if w = 3 then lf else if w = 4 then nI (gs_n K) else -1
def gs_object (s : gs_S) (v w : Int32) : Int32 := if v < 0 then -1 else match (gs_hp s)[v.toNatClampNeg]? with
  | none => -1
  | some ob => if w = 0 then ob.1 else if w = 1 then (match ob.2.1 with
    | none => -1
    | some c => nI c) else if w = 2 then (if ob.1 = 4 then ob.2.2.2.1 else nI ob.2.2.1.length) else if w = 3 then ob.2.2.2.2 else -1
def gs_value (s : gs_S) (v k : Int32) : Int64 := if v < 0 ∨ k < 0 then -9000000000000000000 else match (gs_hp s)[v.toNatClampNeg]? with
  | none => -9000000000000000000
  | some ob => ob.2.2.1.getD k.toNatClampNeg (-9000000000000000000)
section Z4
variable {E : Nat → Value} {d x : Nat} {h h1 : gm_H} {ca : Nat → Nat} {K : gs_K} {F G : Nat → Prop} {s : gs_S} {lf : Int32}
theorem x_count {w : Int32} (hd : 1 ≤ d) (X : gx_X E h x ca K s lf) : gm_Ca E d 61 [.ref x, .int w] h (gx_v (some (.int (gs_count K s lf w))) h) := by
  obtain ⟨R, f11⟩ := X
  obtain ⟨A0, -, -, -, A10, -, -, -, -, -, -, A4, -⟩ := R.1
  obtain ⟨z1, z2, z3, z4, z5, z6, z7, z8, z9⟩ := R.2.2.2.1
  have B6 := R.2.1.2.2.2.2.1
  show gm_W E d 61 0 [.ref x, .int w] [] h _
  unfold gs_count
  by_cases w0 : w = 0
  · subst w0
    simp (decide := true) only [r61_0, r61_1, r61_36, r61_36n, r61_37, r61_40, r61_41, r61_41n, r61_42, r61_48, r61_49, r61_49n, r61_50, r61_53, r61_54, r61_54n, r61_55, r61_58, r61_59, r61_59n, r61_60, r61_63, r61_64, r61_65, i32_10, reduceIte, gm_cmp1, gm_cmp3, gm_cmp4, gm_kd_sf, gm_ln_sf, gm_sf_1, gm_sf_2, gm_nw_1, gm_nw_2, gm_k_int, gm_k_ref, gm_k_null, gm_k_u, gm_k_long, and_true, true_and, true_or, or_true, or_false, false_or, and_self, or_self, if_true, if_false, List.map_nil, List.map_cons, List.sum_nil, List.sum_cons, Nat.zero_le, Option.toList_some, Option.toList_none, List.cons_append, List.nil_append, ne_eq, not_false_eq_true, not_true_eq_false, nI_1, nI_add, Value.category, Nat.reduceAdd, Nat.reduceMod, Nat.reduceLeDiff, Nat.reduceLT, Nat.reduceEqDiff, Nat.reducePow, Nat.le_refl, Nat.add_left_cancel_iff, Nat.add_eq_left, Nat.left_eq_add, Nat.add_zero, A0, z1]
    exact ⟨rfl, rfl⟩
  by_cases w1 : w = 1
  · subst w1
    simp (decide := true) only [r61_0, r61_1, r61_36, r61_36n, r61_37, r61_40, r61_41, r61_41n, r61_42, r61_48, r61_49, r61_49n, r61_50, r61_53, r61_54, r61_54n, r61_55, r61_58, r61_59, r61_59n, r61_60, r61_63, r61_64, r61_65, i32_10, reduceIte, gm_cmp1, gm_cmp3, gm_cmp4, gm_kd_sf, gm_ln_sf, gm_sf_1, gm_sf_2, gm_nw_1, gm_nw_2, gm_k_int, gm_k_ref, gm_k_null, gm_k_u, gm_k_long, and_true, true_and, true_or, or_true, or_false, false_or, and_self, or_self, if_true, if_false, List.map_nil, List.map_cons, List.sum_nil, List.sum_cons, Nat.zero_le, Option.toList_some, Option.toList_none, List.cons_append, List.nil_append, ne_eq, not_false_eq_true, not_true_eq_false, nI_1, nI_add, Value.category, Nat.reduceAdd, Nat.reduceMod, Nat.reduceLeDiff, Nat.reduceLT, Nat.reduceEqDiff, Nat.reducePow, Nat.le_refl, Nat.add_left_cancel_iff, Nat.add_eq_left, Nat.left_eq_add, Nat.add_zero, A0, A10]
    refine c61_45 (by simp) A4 hd (x_size R) (gx_kn ?_) gx_kx
    simp only [r61_0, r61_1, r61_36, r61_36n, r61_37, r61_40, r61_41, r61_41n, r61_42, r61_48, r61_49, r61_49n, r61_50, r61_53, r61_54, r61_54n, r61_55, r61_58, r61_59, r61_59n, r61_60, r61_63, r61_64, r61_65, i32_10, reduceIte, gm_cmp1, gm_cmp3, gm_cmp4, gm_kd_sf, gm_ln_sf, gm_sf_1, gm_sf_2, gm_nw_1, gm_nw_2, gm_k_int, gm_k_ref, gm_k_null, gm_k_u, gm_k_long, and_true, true_and, true_or, or_true, or_false, false_or, and_self, or_self, if_true, if_false, List.map_nil, List.map_cons, List.sum_nil, List.sum_cons, Nat.zero_le, Option.toList_some, Option.toList_none, List.cons_append, List.nil_append, ne_eq, not_false_eq_true, not_true_eq_false, nI_1, nI_add, Value.category, Nat.reduceAdd, Nat.reduceMod, Nat.reduceLeDiff, Nat.reduceLT, Nat.reduceEqDiff, Nat.reducePow, Nat.le_refl, Nat.add_left_cancel_iff, Nat.add_eq_left, Nat.left_eq_add, Nat.add_zero]
    exact ⟨rfl, rfl⟩
  by_cases w2 : w = 2
  · subst w2
    simp (decide := true) only [r61_0, r61_1, r61_36, r61_36n, r61_37, r61_40, r61_41, r61_41n, r61_42, r61_48, r61_49, r61_49n, r61_50, r61_53, r61_54, r61_54n, r61_55, r61_58, r61_59, r61_59n, r61_60, r61_63, r61_64, r61_65, i32_10, reduceIte, gm_cmp1, gm_cmp3, gm_cmp4, gm_kd_sf, gm_ln_sf, gm_sf_1, gm_sf_2, gm_nw_1, gm_nw_2, gm_k_int, gm_k_ref, gm_k_null, gm_k_u, gm_k_long, and_true, true_and, true_or, or_true, or_false, false_or, and_self, or_self, if_true, if_false, List.map_nil, List.map_cons, List.sum_nil, List.sum_cons, Nat.zero_le, Option.toList_some, Option.toList_none, List.cons_append, List.nil_append, ne_eq, not_false_eq_true, not_true_eq_false, nI_1, nI_add, Value.category, Nat.reduceAdd, Nat.reduceMod, Nat.reduceLeDiff, Nat.reduceLT, Nat.reduceEqDiff, Nat.reducePow, Nat.le_refl, Nat.add_left_cancel_iff, Nat.add_eq_left, Nat.left_eq_add, Nat.add_zero, A0, z3]
    exact ⟨rfl, rfl⟩
  by_cases w3 : w = 3
  · subst w3
    simp (decide := true) only [r61_0, r61_1, r61_36, r61_36n, r61_37, r61_40, r61_41, r61_41n, r61_42, r61_48, r61_49, r61_49n, r61_50, r61_53, r61_54, r61_54n, r61_55, r61_58, r61_59, r61_59n, r61_60, r61_63, r61_64, r61_65, i32_10, reduceIte, gm_cmp1, gm_cmp3, gm_cmp4, gm_kd_sf, gm_ln_sf, gm_sf_1, gm_sf_2, gm_nw_1, gm_nw_2, gm_k_int, gm_k_ref, gm_k_null, gm_k_u, gm_k_long, and_true, true_and, true_or, or_true, or_false, false_or, and_self, or_self, if_true, if_false, List.map_nil, List.map_cons, List.sum_nil, List.sum_cons, Nat.zero_le, Option.toList_some, Option.toList_none, List.cons_append, List.nil_append, ne_eq, not_false_eq_true, not_true_eq_false, nI_1, nI_add, Value.category, Nat.reduceAdd, Nat.reduceMod, Nat.reduceLeDiff, Nat.reduceLT, Nat.reduceEqDiff, Nat.reducePow, Nat.le_refl, Nat.add_left_cancel_iff, Nat.add_eq_left, Nat.left_eq_add, Nat.add_zero, A0, f11]
    exact ⟨rfl, rfl⟩
  by_cases w4 : w = 4
  · subst w4
    simp (decide := true) only [r61_0, r61_1, r61_36, r61_36n, r61_37, r61_40, r61_41, r61_41n, r61_42, r61_48, r61_49, r61_49n, r61_50, r61_53, r61_54, r61_54n, r61_55, r61_58, r61_59, r61_59n, r61_60, r61_63, r61_64, r61_65, i32_10, reduceIte, gm_cmp1, gm_cmp3, gm_cmp4, gm_kd_sf, gm_ln_sf, gm_sf_1, gm_sf_2, gm_nw_1, gm_nw_2, gm_k_int, gm_k_ref, gm_k_null, gm_k_u, gm_k_long, and_true, true_and, true_or, or_true, or_false, false_or, and_self, or_self, if_true, if_false, List.map_nil, List.map_cons, List.sum_nil, List.sum_cons, Nat.zero_le, Option.toList_some, Option.toList_none, List.cons_append, List.nil_append, ne_eq, not_false_eq_true, not_true_eq_false, nI_1, nI_add, Value.category, Nat.reduceAdd, Nat.reduceMod, Nat.reduceLeDiff, Nat.reduceLT, Nat.reduceEqDiff, Nat.reducePow, Nat.le_refl, Nat.add_left_cancel_iff, Nat.add_eq_left, Nat.left_eq_add, Nat.add_zero, A0, B6]
    exact ⟨rfl, rfl⟩
  simp only [r61_0, r61_1, r61_36, r61_36n, r61_37, r61_40, r61_41, r61_41n, r61_42, r61_48, r61_49, r61_49n, r61_50, r61_53, r61_54, r61_54n, r61_55, r61_58, r61_59, r61_59n, r61_60, r61_63, r61_64, r61_65, i32_10, reduceIte, gm_cmp1, gm_cmp3, gm_cmp4, gm_kd_sf, gm_ln_sf, gm_sf_1, gm_sf_2, gm_nw_1, gm_nw_2, gm_k_int, gm_k_ref, gm_k_null, gm_k_u, gm_k_long, and_true, true_and, true_or, or_true, or_false, false_or, and_self, or_self, if_true, if_false, List.map_nil, List.map_cons, List.sum_nil, List.sum_cons, Nat.zero_le, Option.toList_some, Option.toList_none, List.cons_append, List.nil_append, ne_eq, not_false_eq_true, not_true_eq_false, nI_1, nI_add, Value.category, Nat.reduceAdd, Nat.reduceMod, Nat.reduceLeDiff, Nat.reduceLT, Nat.reduceEqDiff, Nat.reducePow, Nat.le_refl, Nat.add_left_cancel_iff, Nat.add_eq_left, Nat.left_eq_add, Nat.add_zero, w0, w1, w2, w3, w4]
  exact ⟨rfl, rfl⟩
theorem x_object {v w : Int32} (hd : 1 ≤ d) (R : gx_R E h x ca K F s) : gm_Ca E d 59 [.ref x, .int v, .int w] h (gx_v (some (.int (gs_object s v w))) h) := by
  show gm_W E d 59 0 [.ref x, .int v, .int w, gm_u] [] h _
  obtain ⟨A0, -, -, A8, -, -, -, -, -, A3, A3l, -⟩ := R.1
  have h4 := R.2.2.2.1.2.2.2.1
  simp only [r59_0, r59_0n, r59_1, r59_5, r59_8, r59_9, r59_10, r59_10n, r59_11, r59_14, r59_15, r59_16, r59_16n, r59_17, r59_18, r59_48, r59_48n, r59_49, r59_52, r59_53, r59_53n, r59_54, r59_57n, r59_57, r59_60, r59_61, r59_64, r59_64n, r59_65, r59_68, r59_71, r59_72, r59_72n, r59_73, r59_76, r59_77, r59_80, r59_80n, r59_81, r59_84, r59_87, r59_87n, r59_88, r59_91, r59_92, r59_93, r59_93n, r59_94, r59_97, r59_98, r59_99, i32_10, reduceIte, gm_cmp1, gm_cmp3, gm_cmp4, gm_kd_sf, gm_ln_sf, gm_sf_1, gm_sf_2, gm_nw_1, gm_nw_2, gm_k_int, gm_k_ref, gm_k_null, gm_k_u, gm_k_long, and_true, true_and, true_or, or_true, or_false, false_or, and_self, or_self, if_true, if_false, List.map_nil, List.map_cons, List.sum_nil, List.sum_cons, Nat.zero_le, Option.toList_some, Option.toList_none, List.cons_append, List.nil_append, ne_eq, not_false_eq_true, not_true_eq_false, nI_1, nI_add, Value.category, Nat.reduceAdd, Nat.reduceMod, Nat.reduceLeDiff, Nat.reduceLT, Nat.reduceEqDiff, Nat.reducePow, Nat.le_refl, Nat.add_left_cancel_iff, Nat.add_eq_left, Nat.left_eq_add, Nat.add_zero]
  refine c59_2 (by simp) A0 hd (x_isInHeap R) (gx_kn ?_) gx_kx
  unfold gs_object
  by_cases h1 : v < 0
  · simp only [r59_0, r59_0n, r59_1, r59_5, r59_8, r59_9, r59_10, r59_10n, r59_11, r59_14, r59_15, r59_16, r59_16n, r59_17, r59_18, r59_48, r59_48n, r59_49, r59_52, r59_53, r59_53n, r59_54, r59_57n, r59_57, r59_60, r59_61, r59_64, r59_64n, r59_65, r59_68, r59_71, r59_72, r59_72n, r59_73, r59_76, r59_77, r59_80, r59_80n, r59_81, r59_84, r59_87, r59_87n, r59_88, r59_91, r59_92, r59_93, r59_93n, r59_94, r59_97, r59_98, r59_99, i32_10, reduceIte, gm_cmp1, gm_cmp3, gm_cmp4, gm_kd_sf, gm_ln_sf, gm_sf_1, gm_sf_2, gm_nw_1, gm_nw_2, gm_k_int, gm_k_ref, gm_k_null, gm_k_u, gm_k_long, and_true, true_and, true_or, or_true, or_false, false_or, and_self, or_self, if_true, if_false, List.map_nil, List.map_cons, List.sum_nil, List.sum_cons, Nat.zero_le, Option.toList_some, Option.toList_none, List.cons_append, List.nil_append, ne_eq, not_false_eq_true, not_true_eq_false, nI_1, nI_add, Value.category, Nat.reduceAdd, Nat.reduceMod, Nat.reduceLeDiff, Nat.reduceLT, Nat.reduceEqDiff, Nat.reducePow, Nat.le_refl, Nat.add_left_cancel_iff, Nat.add_eq_left, Nat.left_eq_add, Nat.add_zero, h1]
    exact ⟨rfl, rfl⟩
  by_cases h2 : nI (gs_hp s).length ≤ v
  · simp only [r59_0, r59_0n, r59_1, r59_5, r59_8, r59_9, r59_10, r59_10n, r59_11, r59_14, r59_15, r59_16, r59_16n, r59_17, r59_18, r59_48, r59_48n, r59_49, r59_52, r59_53, r59_53n, r59_54, r59_57n, r59_57, r59_60, r59_61, r59_64, r59_64n, r59_65, r59_68, r59_71, r59_72, r59_72n, r59_73, r59_76, r59_77, r59_80, r59_80n, r59_81, r59_84, r59_87, r59_87n, r59_88, r59_91, r59_92, r59_93, r59_93n, r59_94, r59_97, r59_98, r59_99, i32_10, reduceIte, gm_cmp1, gm_cmp3, gm_cmp4, gm_kd_sf, gm_ln_sf, gm_sf_1, gm_sf_2, gm_nw_1, gm_nw_2, gm_k_int, gm_k_ref, gm_k_null, gm_k_u, gm_k_long, and_true, true_and, true_or, or_true, or_false, false_or, and_self, or_self, if_true, if_false, List.map_nil, List.map_cons, List.sum_nil, List.sum_cons, Nat.zero_le, Option.toList_some, Option.toList_none, List.cons_append, List.nil_append, ne_eq, not_false_eq_true, not_true_eq_false, nI_1, nI_add, Value.category, Nat.reduceAdd, Nat.reduceMod, Nat.reduceLeDiff, Nat.reduceLT, Nat.reduceEqDiff, Nat.reducePow, Nat.le_refl, Nat.add_left_cancel_iff, Nat.add_eq_left, Nat.left_eq_add, Nat.add_zero, h1, h2]
    obtain ⟨i, hi, rfl⟩ := nI_of h1
    rw [nI_leI (by omega) hi] at h2
    rw [nI_clamp hi, List.getElem?_eq_none h2]
    exact ⟨rfl, rfl⟩
  obtain ⟨i, o, t, rfl, i1, i2, i3, i4, ⟨t1, t2, t3, t4, t5, t6, t7, t8, t9, t10⟩, i6⟩ := R.look h1 h2
  rw [if_neg h1, i2, i3]
  dsimp only
  by_cases w0 : w = 0
  · subst w0
    simp (decide := true) only [r59_0, r59_0n, r59_1, r59_5, r59_8, r59_9, r59_10, r59_10n, r59_11, r59_14, r59_15, r59_16, r59_16n, r59_17, r59_18, r59_48, r59_48n, r59_49, r59_52, r59_53, r59_53n, r59_54, r59_57n, r59_57, r59_60, r59_61, r59_64, r59_64n, r59_65, r59_68, r59_71, r59_72, r59_72n, r59_73, r59_76, r59_77, r59_80, r59_80n, r59_81, r59_84, r59_87, r59_87n, r59_88, r59_91, r59_92, r59_93, r59_93n, r59_94, r59_97, r59_98, r59_99, i32_10, reduceIte, gm_cmp1, gm_cmp3, gm_cmp4, gm_kd_sf, gm_ln_sf, gm_sf_1, gm_sf_2, gm_nw_1, gm_nw_2, gm_k_int, gm_k_ref, gm_k_null, gm_k_u, gm_k_long, and_true, true_and, true_or, or_true, or_false, false_or, and_self, or_self, if_true, if_false, List.map_nil, List.map_cons, List.sum_nil, List.sum_cons, Nat.zero_le, Option.toList_some, Option.toList_none, List.cons_append, List.nil_append, ne_eq, not_false_eq_true, not_true_eq_false, nI_1, nI_add, Value.category, Nat.reduceAdd, Nat.reduceMod, Nat.reduceLeDiff, Nat.reduceLT, Nat.reduceEqDiff, Nat.reducePow, Nat.le_refl, Nat.add_left_cancel_iff, Nat.add_eq_left, Nat.left_eq_add, Nat.add_zero, h1, h2, A0, A8, A3, A3l, i1, i4, t1, t2]
    exact ⟨rfl, rfl⟩
  by_cases w1 : w = 1
  · subst w1
    cases hw : o.2.1 with
    | none =>
      rw [hw] at t3
      have t3 : gm_fv h t 1 = .null := t3
      simp (decide := true) only [r59_0, r59_0n, r59_1, r59_5, r59_8, r59_9, r59_10, r59_10n, r59_11, r59_14, r59_15, r59_16, r59_16n, r59_17, r59_18, r59_48, r59_48n, r59_49, r59_52, r59_53, r59_53n, r59_54, r59_57n, r59_57, r59_60, r59_61, r59_64, r59_64n, r59_65, r59_68, r59_71, r59_72, r59_72n, r59_73, r59_76, r59_77, r59_80, r59_80n, r59_81, r59_84, r59_87, r59_87n, r59_88, r59_91, r59_92, r59_93, r59_93n, r59_94, r59_97, r59_98, r59_99, i32_10, reduceIte, gm_cmp1, gm_cmp3, gm_cmp4, gm_kd_sf, gm_ln_sf, gm_sf_1, gm_sf_2, gm_nw_1, gm_nw_2, gm_k_int, gm_k_ref, gm_k_null, gm_k_u, gm_k_long, and_true, true_and, true_or, or_true, or_false, false_or, and_self, or_self, if_true, if_false, List.map_nil, List.map_cons, List.sum_nil, List.sum_cons, Nat.zero_le, Option.toList_some, Option.toList_none, List.cons_append, List.nil_append, ne_eq, not_false_eq_true, not_true_eq_false, nI_1, nI_add, Value.category, Nat.reduceAdd, Nat.reduceMod, Nat.reduceLeDiff, Nat.reduceLT, Nat.reduceEqDiff, Nat.reducePow, Nat.le_refl, Nat.add_left_cancel_iff, Nat.add_eq_left, Nat.left_eq_add, Nat.add_zero, h1, h2, A0, A8, A3, A3l, i1, i4, t1, t3]
      exact ⟨rfl, rfl⟩
    | some c =>
      rw [hw] at t3
      have t3 : gm_fv h t 1 = .ref (ca c) := t3
      obtain ⟨C, hC⟩ := Option.isSome_iff_exists.mp (R.2.2.2.2.2.2.1 i o c i3 hw)
      obtain ⟨-, -, -, k3, f0, -⟩ := R.2.2.1.at hC
      simp (decide := true) only [r59_0, r59_0n, r59_1, r59_5, r59_8, r59_9, r59_10, r59_10n, r59_11, r59_14, r59_15, r59_16, r59_16n, r59_17, r59_18, r59_48, r59_48n, r59_49, r59_52, r59_53, r59_53n, r59_54, r59_57n, r59_57, r59_60, r59_61, r59_64, r59_64n, r59_65, r59_68, r59_71, r59_72, r59_72n, r59_73, r59_76, r59_77, r59_80, r59_80n, r59_81, r59_84, r59_87, r59_87n, r59_88, r59_91, r59_92, r59_93, r59_93n, r59_94, r59_97, r59_98, r59_99, i32_10, reduceIte, gm_cmp1, gm_cmp3, gm_cmp4, gm_kd_sf, gm_ln_sf, gm_sf_1, gm_sf_2, gm_nw_1, gm_nw_2, gm_k_int, gm_k_ref, gm_k_null, gm_k_u, gm_k_long, and_true, true_and, true_or, or_true, or_false, false_or, and_self, or_self, if_true, if_false, List.map_nil, List.map_cons, List.sum_nil, List.sum_cons, Nat.zero_le, Option.toList_some, Option.toList_none, List.cons_append, List.nil_append, ne_eq, not_false_eq_true, not_true_eq_false, nI_1, nI_add, Value.category, Nat.reduceAdd, Nat.reduceMod, Nat.reduceLeDiff, Nat.reduceLT, Nat.reduceEqDiff, Nat.reducePow, Nat.le_refl, Nat.add_left_cancel_iff, Nat.add_eq_left, Nat.left_eq_add, Nat.add_zero, h1, h2, A0, A8, A3, A3l, i1, i4, t1, t3, k3, f0]
      exact ⟨rfl, rfl⟩
  by_cases w2 : w = 2
  · subst w2
    by_cases h4 : o.1 = 4
    · simp (decide := true) only [r59_0, r59_0n, r59_1, r59_5, r59_8, r59_9, r59_10, r59_10n, r59_11, r59_14, r59_15, r59_16, r59_16n, r59_17, r59_18, r59_48, r59_48n, r59_49, r59_52, r59_53, r59_53n, r59_54, r59_57n, r59_57, r59_60, r59_61, r59_64, r59_64n, r59_65, r59_68, r59_71, r59_72, r59_72n, r59_73, r59_76, r59_77, r59_80, r59_80n, r59_81, r59_84, r59_87, r59_87n, r59_88, r59_91, r59_92, r59_93, r59_93n, r59_94, r59_97, r59_98, r59_99, i32_10, reduceIte, gm_cmp1, gm_cmp3, gm_cmp4, gm_kd_sf, gm_ln_sf, gm_sf_1, gm_sf_2, gm_nw_1, gm_nw_2, gm_k_int, gm_k_ref, gm_k_null, gm_k_u, gm_k_long, and_true, true_and, true_or, or_true, or_false, false_or, and_self, or_self, if_true, if_false, List.map_nil, List.map_cons, List.sum_nil, List.sum_cons, Nat.zero_le, Option.toList_some, Option.toList_none, List.cons_append, List.nil_append, ne_eq, not_false_eq_true, not_true_eq_false, nI_1, nI_add, Value.category, Nat.reduceAdd, Nat.reduceMod, Nat.reduceLeDiff, Nat.reduceLT, Nat.reduceEqDiff, Nat.reducePow, Nat.le_refl, Nat.add_left_cancel_iff, Nat.add_eq_left, Nat.left_eq_add, Nat.add_zero, h1, h2, A0, A8, A3, A3l, i1, i4, t1, t2, h4, t5]
      exact ⟨rfl, rfl⟩
    · simp (decide := true) only [r59_0, r59_0n, r59_1, r59_5, r59_8, r59_9, r59_10, r59_10n, r59_11, r59_14, r59_15, r59_16, r59_16n, r59_17, r59_18, r59_48, r59_48n, r59_49, r59_52, r59_53, r59_53n, r59_54, r59_57n, r59_57, r59_60, r59_61, r59_64, r59_64n, r59_65, r59_68, r59_71, r59_72, r59_72n, r59_73, r59_76, r59_77, r59_80, r59_80n, r59_81, r59_84, r59_87, r59_87n, r59_88, r59_91, r59_92, r59_93, r59_93n, r59_94, r59_97, r59_98, r59_99, i32_10, reduceIte, gm_cmp1, gm_cmp3, gm_cmp4, gm_kd_sf, gm_ln_sf, gm_sf_1, gm_sf_2, gm_nw_1, gm_nw_2, gm_k_int, gm_k_ref, gm_k_null, gm_k_u, gm_k_long, and_true, true_and, true_or, or_true, or_false, false_or, and_self, or_self, if_true, if_false, List.map_nil, List.map_cons, List.sum_nil, List.sum_cons, Nat.zero_le, Option.toList_some, Option.toList_none, List.cons_append, List.nil_append, ne_eq, not_false_eq_true, not_true_eq_false, nI_1, nI_add, Value.category, Nat.reduceAdd, Nat.reduceMod, Nat.reduceLeDiff, Nat.reduceLT, Nat.reduceEqDiff, Nat.reducePow, Nat.le_refl, Nat.add_left_cancel_iff, Nat.add_eq_left, Nat.left_eq_add, Nat.add_zero, h1, h2, A0, A8, A3, A3l, i1, i4, t1, t2, h4, t4, t7, t8]
      exact ⟨rfl, rfl⟩
  by_cases w3 : w = 3
  · subst w3
    simp (decide := true) only [r59_0, r59_0n, r59_1, r59_5, r59_8, r59_9, r59_10, r59_10n, r59_11, r59_14, r59_15, r59_16, r59_16n, r59_17, r59_18, r59_48, r59_48n, r59_49, r59_52, r59_53, r59_53n, r59_54, r59_57n, r59_57, r59_60, r59_61, r59_64, r59_64n, r59_65, r59_68, r59_71, r59_72, r59_72n, r59_73, r59_76, r59_77, r59_80, r59_80n, r59_81, r59_84, r59_87, r59_87n, r59_88, r59_91, r59_92, r59_93, r59_93n, r59_94, r59_97, r59_98, r59_99, i32_10, reduceIte, gm_cmp1, gm_cmp3, gm_cmp4, gm_kd_sf, gm_ln_sf, gm_sf_1, gm_sf_2, gm_nw_1, gm_nw_2, gm_k_int, gm_k_ref, gm_k_null, gm_k_u, gm_k_long, and_true, true_and, true_or, or_true, or_false, false_or, and_self, or_self, if_true, if_false, List.map_nil, List.map_cons, List.sum_nil, List.sum_cons, Nat.zero_le, Option.toList_some, Option.toList_none, List.cons_append, List.nil_append, ne_eq, not_false_eq_true, not_true_eq_false, nI_1, nI_add, Value.category, Nat.reduceAdd, Nat.reduceMod, Nat.reduceLeDiff, Nat.reduceLT, Nat.reduceEqDiff, Nat.reducePow, Nat.le_refl, Nat.add_left_cancel_iff, Nat.add_eq_left, Nat.left_eq_add, Nat.add_zero, h1, h2, A0, A8, A3, A3l, i1, i4, t1, t6]
    exact ⟨rfl, rfl⟩
  simp only [r59_0, r59_0n, r59_1, r59_5, r59_8, r59_9, r59_10, r59_10n, r59_11, r59_14, r59_15, r59_16, r59_16n, r59_17, r59_18, r59_48, r59_48n, r59_49, r59_52, r59_53, r59_53n, r59_54, r59_57n, r59_57, r59_60, r59_61, r59_64, r59_64n, r59_65, r59_68, r59_71, r59_72, r59_72n, r59_73, r59_76, r59_77, r59_80, r59_80n, r59_81, r59_84, r59_87, r59_87n, r59_88, r59_91, r59_92, r59_93, r59_93n, r59_94, r59_97, r59_98, r59_99, i32_10, reduceIte, gm_cmp1, gm_cmp3, gm_cmp4, gm_kd_sf, gm_ln_sf, gm_sf_1, gm_sf_2, gm_nw_1, gm_nw_2, gm_k_int, gm_k_ref, gm_k_null, gm_k_u, gm_k_long, and_true, true_and, true_or, or_true, or_false, false_or, and_self, or_self, if_true, if_false, List.map_nil, List.map_cons, List.sum_nil, List.sum_cons, Nat.zero_le, Option.toList_some, Option.toList_none, List.cons_append, List.nil_append, ne_eq, not_false_eq_true, not_true_eq_false, nI_1, nI_add, Value.category, Nat.reduceAdd, Nat.reduceMod, Nat.reduceLeDiff, Nat.reduceLT, Nat.reduceEqDiff, Nat.reducePow, Nat.le_refl, Nat.add_left_cancel_iff, Nat.add_eq_left, Nat.left_eq_add, Nat.add_zero, h1, h2, A0, A8, A3, A3l, i1, i4, w0, w1, w2, w3]
  exact ⟨rfl, rfl⟩
theorem x_value {v k : Int32} (hd : 1 ≤ d) (R : gx_R E h x ca K F s) : gm_Ca E d 60 [.ref x, .int v, .int k] h (gx_v (some (.long (gs_value s v k))) h) := by
  show gm_W E d 60 0 [.ref x, .int v, .int k] [] h _
  obtain ⟨A0, -, -, A8, -, -, -, -, -, A3, A3l, -⟩ := R.1
  have h4 := R.2.2.2.1.2.2.2.1
  simp only [r60_0, r60_0n, r60_1, r60_5, r60_8, r60_9, r60_12, r60_13, r60_13n, r60_14, r60_17, r60_18, r60_19, r60_22, r60_23, r60_26, r60_29, r60_30, r60_30n, r60_31, r60_34, r60_35, r60_36, r60_39, r60_40, r60_41, i32_10, reduceIte, gm_cmp1, gm_cmp3, gm_cmp4, gm_kd_sf, gm_ln_sf, gm_sf_1, gm_sf_2, gm_nw_1, gm_nw_2, gm_k_int, gm_k_ref, gm_k_null, gm_k_u, gm_k_long, and_true, true_and, true_or, or_true, or_false, false_or, and_self, or_self, if_true, if_false, List.map_nil, List.map_cons, List.sum_nil, List.sum_cons, Nat.zero_le, Option.toList_some, Option.toList_none, List.cons_append, List.nil_append, ne_eq, not_false_eq_true, not_true_eq_false, nI_1, nI_add, Value.category, Nat.reduceAdd, Nat.reduceMod, Nat.reduceLeDiff, Nat.reduceLT, Nat.reduceEqDiff, Nat.reducePow, Nat.le_refl, Nat.add_left_cancel_iff, Nat.add_eq_left, Nat.left_eq_add, Nat.add_zero]
  refine c60_2 (by simp) A0 hd (x_isInHeap R) (gx_kn ?_) gx_kx
  unfold gs_value
  by_cases h1 : v < 0
  · simp only [r60_0, r60_0n, r60_1, r60_5, r60_8, r60_9, r60_12, r60_13, r60_13n, r60_14, r60_17, r60_18, r60_19, r60_22, r60_23, r60_26, r60_29, r60_30, r60_30n, r60_31, r60_34, r60_35, r60_36, r60_39, r60_40, r60_41, i32_10, reduceIte, gm_cmp1, gm_cmp3, gm_cmp4, gm_kd_sf, gm_ln_sf, gm_sf_1, gm_sf_2, gm_nw_1, gm_nw_2, gm_k_int, gm_k_ref, gm_k_null, gm_k_u, gm_k_long, and_true, true_and, true_or, or_true, or_false, false_or, and_self, or_self, if_true, if_false, List.map_nil, List.map_cons, List.sum_nil, List.sum_cons, Nat.zero_le, Option.toList_some, Option.toList_none, List.cons_append, List.nil_append, ne_eq, not_false_eq_true, not_true_eq_false, nI_1, nI_add, Value.category, Nat.reduceAdd, Nat.reduceMod, Nat.reduceLeDiff, Nat.reduceLT, Nat.reduceEqDiff, Nat.reducePow, Nat.le_refl, Nat.add_left_cancel_iff, Nat.add_eq_left, Nat.left_eq_add, Nat.add_zero, h1]
    exact ⟨rfl, rfl⟩
  by_cases h2 : nI (gs_hp s).length ≤ v
  · simp only [r60_0, r60_0n, r60_1, r60_5, r60_8, r60_9, r60_12, r60_13, r60_13n, r60_14, r60_17, r60_18, r60_19, r60_22, r60_23, r60_26, r60_29, r60_30, r60_30n, r60_31, r60_34, r60_35, r60_36, r60_39, r60_40, r60_41, i32_10, reduceIte, gm_cmp1, gm_cmp3, gm_cmp4, gm_kd_sf, gm_ln_sf, gm_sf_1, gm_sf_2, gm_nw_1, gm_nw_2, gm_k_int, gm_k_ref, gm_k_null, gm_k_u, gm_k_long, and_true, true_and, true_or, or_true, or_false, false_or, and_self, or_self, if_true, if_false, List.map_nil, List.map_cons, List.sum_nil, List.sum_cons, Nat.zero_le, Option.toList_some, Option.toList_none, List.cons_append, List.nil_append, ne_eq, not_false_eq_true, not_true_eq_false, nI_1, nI_add, Value.category, Nat.reduceAdd, Nat.reduceMod, Nat.reduceLeDiff, Nat.reduceLT, Nat.reduceEqDiff, Nat.reducePow, Nat.le_refl, Nat.add_left_cancel_iff, Nat.add_eq_left, Nat.left_eq_add, Nat.add_zero, h1, h2]
    obtain ⟨i, hi, rfl⟩ := nI_of h1
    rw [nI_leI (by omega) hi] at h2
    rw [nI_clamp hi, List.getElem?_eq_none h2]
    by_cases k0 : k < 0 <;> simp only [k0, reduceIte] <;> exact ⟨rfl, rfl⟩
  obtain ⟨i, o, t, rfl, i1, i2, i3, i4, ⟨t1, t2, t3, t4, t5, t6, t7, t8, t9, t10⟩, i6⟩ := R.look h1 h2
  by_cases k0 : k < 0
  · simp only [r60_0, r60_0n, r60_1, r60_5, r60_8, r60_9, r60_12, r60_13, r60_13n, r60_14, r60_17, r60_18, r60_19, r60_22, r60_23, r60_26, r60_29, r60_30, r60_30n, r60_31, r60_34, r60_35, r60_36, r60_39, r60_40, r60_41, i32_10, reduceIte, gm_cmp1, gm_cmp3, gm_cmp4, gm_kd_sf, gm_ln_sf, gm_sf_1, gm_sf_2, gm_nw_1, gm_nw_2, gm_k_int, gm_k_ref, gm_k_null, gm_k_u, gm_k_long, and_true, true_and, true_or, or_true, or_false, false_or, and_self, or_self, if_true, if_false, List.map_nil, List.map_cons, List.sum_nil, List.sum_cons, Nat.zero_le, Option.toList_some, Option.toList_none, List.cons_append, List.nil_append, ne_eq, not_false_eq_true, not_true_eq_false, nI_1, nI_add, Value.category, Nat.reduceAdd, Nat.reduceMod, Nat.reduceLeDiff, Nat.reduceLT, Nat.reduceEqDiff, Nat.reducePow, Nat.le_refl, Nat.add_left_cancel_iff, Nat.add_eq_left, Nat.left_eq_add, Nat.add_zero, h1, h2, k0]
    exact ⟨rfl, rfl⟩
  rw [if_neg (show ¬ (nI i < 0 ∨ k < 0) from fun z => z.elim h1 k0), i2, i3]
  dsimp only
  obtain ⟨m, hm, rfl⟩ := nI_of k0
  rw [nI_clamp hm]
  by_cases hl : m < o.2.2.1.length
  · have hl31 : o.2.2.1.length < 2147483648 := by omega
    have f := t10 m _ (List.getElem?_eq_getElem hl)
    have eg : o.2.2.1.getD m (-9000000000000000000) = o.2.2.1[m] := by rw [List.getD_eq_getElem?_getD, List.getElem?_eq_getElem hl]; rfl
    simp only [r60_0, r60_0n, r60_1, r60_5, r60_8, r60_9, r60_12, r60_13, r60_13n, r60_14, r60_17, r60_18, r60_19, r60_22, r60_23, r60_26, r60_29, r60_30, r60_30n, r60_31, r60_34, r60_35, r60_36, r60_39, r60_40, r60_41, i32_10, reduceIte, gm_cmp1, gm_cmp3, gm_cmp4, gm_kd_sf, gm_ln_sf, gm_sf_1, gm_sf_2, gm_nw_1, gm_nw_2, gm_k_int, gm_k_ref, gm_k_null, gm_k_u, gm_k_long, and_true, true_and, true_or, or_true, or_false, false_or, and_self, or_self, if_true, if_false, List.map_nil, List.map_cons, List.sum_nil, List.sum_cons, Nat.zero_le, Option.toList_some, Option.toList_none, List.cons_append, List.nil_append, ne_eq, not_false_eq_true, not_true_eq_false, nI_1, nI_add, Value.category, Nat.reduceAdd, Nat.reduceMod, Nat.reduceLeDiff, Nat.reduceLT, Nat.reduceEqDiff, Nat.reducePow, Nat.le_refl, Nat.add_left_cancel_iff, Nat.add_eq_left, Nat.left_eq_add, Nat.add_zero, h1, h2, k0, A0, A8, A3, A3l, i1, i4, t1, t4, t7, t8, nI_ltT hl (show o.2.2.1.length < 2 ^ 31 by omega), hl, hl31, f, eg]
    exact ⟨rfl, rfl⟩
  · have eg : o.2.2.1.getD m (-9000000000000000000) = -9000000000000000000 := by rw [List.getD_eq_getElem?_getD, List.getElem?_eq_none (by omega)]; rfl
    simp only [r60_0, r60_0n, r60_1, r60_5, r60_8, r60_9, r60_12, r60_13, r60_13n, r60_14, r60_17, r60_18, r60_19, r60_22, r60_23, r60_26, r60_29, r60_30, r60_30n, r60_31, r60_34, r60_35, r60_36, r60_39, r60_40, r60_41, i32_10, reduceIte, gm_cmp1, gm_cmp3, gm_cmp4, gm_kd_sf, gm_ln_sf, gm_sf_1, gm_sf_2, gm_nw_1, gm_nw_2, gm_k_int, gm_k_ref, gm_k_null, gm_k_u, gm_k_long, and_true, true_and, true_or, or_true, or_false, false_or, and_self, or_self, if_true, if_false, List.map_nil, List.map_cons, List.sum_nil, List.sum_cons, Nat.zero_le, Option.toList_some, Option.toList_none, List.cons_append, List.nil_append, ne_eq, not_false_eq_true, not_true_eq_false, nI_1, nI_add, Value.category, Nat.reduceAdd, Nat.reduceMod, Nat.reduceLeDiff, Nat.reduceLT, Nat.reduceEqDiff, Nat.reducePow, Nat.le_refl, Nat.add_left_cancel_iff, Nat.add_eq_left, Nat.left_eq_add, Nat.add_zero, h1, h2, k0, A0, A8, A3, A3l, i1, i4, t1, t4, t7, t8, nI_ltF (show o.2.2.1.length ≤ m by omega) hm, eg]
    exact ⟨rfl, rfl⟩
/-- nothing in heap and handles -/
theorem gx_R.mpt {p : Nat} (R : gx_R E h x ca K F s) (hp : p ≤ gs_n K) : gx_R E (gm_sf (gm_sf (gm_sf (gm_sf h x 7 (.int (nI p))) x 9 (.int (nI 0))) (x + 4) 2 (.int (nI 0))) (x + 4) 3 (.int (nI 0))) x ca K F (p, [], [], 0) := by
  have l0 : gm_ln h x = 13 := R.len.1
  have l4 : gm_ln h (x + 4) = 4 := R.len.2
  obtain ⟨A, B, C, M, -, -⟩ := R
  have hf : ∀ b j, (b ≠ x ∨ (j ≠ 7 ∧ j ≠ 9)) → (b ≠ x + 4 ∨ (j ≠ 2 ∧ j ≠ 3)) → gm_fv (gm_sf (gm_sf (gm_sf (gm_sf h x 7 (.int (nI p))) x 9 (.int (nI 0))) (x + 4) 2 (.int (nI 0))) (x + 4) 3 (.int (nI 0))) b j = gm_fv h b j := by
    intro b j h0 h4
    have e1 : ∀ (hh : gm_H) (k : Nat) (v : Value), (k = 2 ∨ k = 3) → gm_fv (gm_sf hh (x + 4) k v) b j = gm_fv hh b j := fun hh k v hk => by
      rcases h4 with z | z
      · exact gm_fv_sfa z
      · exact gm_fv_sfj (by omega)
    have e2 : ∀ (hh : gm_H) (k : Nat) (v : Value), (k = 7 ∨ k = 9) → gm_fv (gm_sf hh x k v) b j = gm_fv hh b j := fun hh k v hk => by
      rcases h0 with z | z
      · exact gm_fv_sfa z
      · exact gm_fv_sfj (by omega)
    rw [e1 _ _ _ (Or.inr rfl), e1 _ _ _ (Or.inl rfl), e2 _ _ _ (Or.inr rfl), e2 _ _ _ (Or.inl rfl)]
  have g : gx_ag h (gm_sf (gm_sf (gm_sf (gm_sf h x 7 (.int (nI p))) x 9 (.int (nI 0))) (x + 4) 2 (.int (nI 0))) (x + 4) 3 (.int (nI 0))) x F := ((gx_ag.sf (gx_ok.no (by omega))).trans (gx_ag.sf (gx_ok.no (by omega)))).trans (gx_ag.sf (gx_ok.no (by omega))) |>.trans (gx_ag.sf (gx_ok.no (by omega)))
  obtain ⟨z1, z2, z3, z4, z5, z6, z7, z8, z9⟩ := M
  refine ⟨?_, ?_, C.tr g (fun c _ => hf _ _ (Or.inl (by omega)) (Or.inl (by omega))), ⟨?_, hp, ?_, Nat.zero_le _, ?_, ?_, Nat.le_refl _, Nat.zero_le _, ?_⟩, ⟨fun _ => 0, fun i j _ hj => absurd hj (Nat.not_lt_zero _), fun i o hi => ?_⟩, fun i e hi => ?_, fun i o c hi => ?_, fun i e hi => ?_⟩
  · unfold gx_A at A ⊢
    simp only [gm_kd_sf, gm_ln_sf, gm_sf_1, hf x 4 (Or.inr (by decide)) (Or.inl (by omega)), hf x 5 (Or.inr (by decide)) (Or.inl (by omega)), hf x 8 (Or.inr (by decide)) (Or.inl (by omega)), hf x 10 (Or.inr (by decide)) (Or.inl (by omega)), hf (x + 4) 0 (Or.inl (by omega)) (Or.inr (by decide)), hf (x + 4) 1 (Or.inl (by omega)) (Or.inr (by decide))]
    exact A
  · unfold gx_B at B ⊢
    simp only [hf x 0 (Or.inr (by decide)) (Or.inl (by omega)), hf x 1 (Or.inr (by decide)) (Or.inl (by omega)), hf x 2 (Or.inr (by decide)) (Or.inl (by omega)), hf x 3 (Or.inr (by decide)) (Or.inl (by omega)), hf x 6 (Or.inr (by decide)) (Or.inl (by omega)), hf (x + 2) _ (Or.inl (by omega)) (Or.inl (by omega))]
    exact B
  · rw [gm_fv_sfa (by omega), gm_fv_sfa (by omega), gm_fv_sfj (by decide), gm_fv_sf (by omega)]; rfl
  · rw [gm_fv_sfa (by omega), gm_fv_sfa (by omega), gm_fv_sf (by simp only [gm_ln_sf]; omega)]; rfl
  · rw [gm_fv_sfj (by decide), gm_fv_sf (by simp only [gm_ln_sf]; omega)]; rfl
  · rw [gm_fv_sf (by simp only [gm_ln_sf]; omega)]; rfl
  · rw [hf _ _ (Or.inr (by decide)) (Or.inl (by omega))]; exact z9
  · simp [gs_hp] at hi
  · simp [gs_hs] at hi
  · simp [gs_hp] at hi
  · simp [gs_hs] at hi
def gs_begin (K : gs_K) : Int32 × Nat × Int32 := if gs_n K < 4 then (-3, 0, -3) else if (gs_num K 0 4).toInt32 ≠ -1393754107 then (-4, 0, -4) else (4, 4, 0)
theorem x_begin (hd : 1 ≤ d) (X : gx_X E h x ca K s lf) : gm_Ca E d 56 [.ref x] h (fun r h' => r = .inl (some (.int (gs_begin K).1)) ∧ gx_X E h' x ca K ((gs_begin K).2.1, [], [], 0) (gs_begin K).2.2 ∧ h'.1 = h.1 ∧ h'.2.1 = h.2.1) := by
  obtain ⟨R, f11⟩ := X
  have l0 : gm_ln h x = 13 := R.len.1
  obtain ⟨A0, -, -, -, A10, -, -, -, -, -, -, A4, -⟩ := R.1
  have B6 := R.2.1.2.2.2.2.1
  have hn7 := R.2.1.2.2.2.2.2.1
  have n107 : (10 : Nat) ≠ 7 := by decide
  have n109 : (10 : Nat) ≠ 9 := by decide
  show gm_W E d 56 0 [.ref x] [] h _
  simp only [r56_0, r56_0n, r56_1, r56_2, r56_5, r56_5n, r56_6, r56_7, r56_10, r56_10n, r56_11, r56_14, r56_15, r56_19, r56_19n, r56_20, r56_21, r56_24, r56_24n, r56_25, r56_28, r56_29, r56_32, r56_32n, r56_33, r56_35, r56_38, r56_40, r56_41, r56_41n, r56_42, r56_43, r56_47, r56_48, r56_50, r56_53, r56_53n, r56_54, r56_56, r56_59, r56_61, r56_62, r56_62n, r56_63, r56_64, r56_67, r56_67n, r56_68, r56_71, i32_10, reduceIte, gm_cmp1, gm_cmp3, gm_cmp4, gm_kd_sf, gm_ln_sf, gm_sf_1, gm_sf_2, gm_nw_1, gm_nw_2, gm_k_int, gm_k_ref, gm_k_null, gm_k_u, gm_k_long, and_true, true_and, true_or, or_true, or_false, false_or, and_self, or_self, if_true, if_false, List.map_nil, List.map_cons, List.sum_nil, List.sum_cons, Nat.zero_le, Option.toList_some, Option.toList_none, List.cons_append, List.nil_append, ne_eq, not_false_eq_true, not_true_eq_false, nI_1, nI_add, Value.category, Nat.reduceAdd, Nat.reduceMod, Nat.reduceLeDiff, Nat.reduceLT, Nat.reduceEqDiff, Nat.reducePow, Nat.le_refl, Nat.add_left_cancel_iff, Nat.add_eq_left, Nat.left_eq_add, Nat.add_zero, A0, gm_fv_sfj n107, gm_fv_sfj n109, A10]
  refine c56_16 (by simp) (by simp only [gm_kd_sf]; exact A4) hd (x_rewind (x := x + 4) (f := 0) (m := 0) (hk := by simp only [gm_kd_sf]; exact A4) _ _) (gx_kn ?_) gx_kx
  have RB := R.mpt (p := 0) (Nat.zero_le _)
  obtain ⟨hB, hBe⟩ : ∃ hB, hB = gm_sf (gm_sf (gm_sf (gm_sf h x 7 (.int 0)) x 9 (.int 0)) (x + 4) 2 (.int 0)) (x + 4) 3 (.int 0) := ⟨_, rfl⟩
  rw [← hBe]
  have RB : gx_R E hB x ca K (fun _ => False) (0, [], [], 0) := by rw [hBe]; exact RB
  have cB : hB.1 = h.1 ∧ hB.2.1 = h.2.1 := by rw [hBe]; simp only [gm_sf_1, gm_sf_2, and_self]
  clear hBe
  have RC := RB.last (v := 0)
  have kB := RB.1.1
  have lB : gm_ln hB x = 13 := RB.len.1
  have n6 : (6 : Nat) ≠ 11 := by decide
  have f6 : gm_fv hB x 6 = .int (nI (gs_n K)) := RB.2.1.2.2.2.2.1
  unfold gs_begin
  by_cases h4 : gs_n K < 4
  · have e4 : ¬ (4 : Int32) ≤ nI (gs_n K) := nI_ge (b := 4) h4 (by decide)
    simp only [r56_0, r56_0n, r56_1, r56_2, r56_5, r56_5n, r56_6, r56_7, r56_10, r56_10n, r56_11, r56_14, r56_15, r56_19, r56_19n, r56_20, r56_21, r56_24, r56_24n, r56_25, r56_28, r56_29, r56_32, r56_32n, r56_33, r56_35, r56_38, r56_40, r56_41, r56_41n, r56_42, r56_43, r56_47, r56_48, r56_50, r56_53, r56_53n, r56_54, r56_56, r56_59, r56_61, r56_62, r56_62n, r56_63, r56_64, r56_67, r56_67n, r56_68, r56_71, i32_10, reduceIte, gm_cmp1, gm_cmp3, gm_cmp4, gm_kd_sf, gm_ln_sf, gm_sf_1, gm_sf_2, gm_nw_1, gm_nw_2, gm_k_int, gm_k_ref, gm_k_null, gm_k_u, gm_k_long, and_true, true_and, true_or, or_true, or_false, false_or, and_self, or_self, if_true, if_false, List.map_nil, List.map_cons, List.sum_nil, List.sum_cons, Nat.zero_le, Option.toList_some, Option.toList_none, List.cons_append, List.nil_append, ne_eq, not_false_eq_true, not_true_eq_false, nI_1, nI_add, Value.category, Nat.reduceAdd, Nat.reduceMod, Nat.reduceLeDiff, Nat.reduceLT, Nat.reduceEqDiff, Nat.reducePow, Nat.le_refl, Nat.add_left_cancel_iff, Nat.add_eq_left, Nat.left_eq_add, Nat.add_zero, kB, gm_fv_sfj n6, f6, e4, h4]
    exact ⟨⟨RC.last, gm_fv_sf (by rw [gm_ln_sf]; omega)⟩, cB⟩
  have e4 : (4 : Int32) ≤ nI (gs_n K) := nI_le (a := 4) (by omega) (by omega)
  simp only [r56_0, r56_0n, r56_1, r56_2, r56_5, r56_5n, r56_6, r56_7, r56_10, r56_10n, r56_11, r56_14, r56_15, r56_19, r56_19n, r56_20, r56_21, r56_24, r56_24n, r56_25, r56_28, r56_29, r56_32, r56_32n, r56_33, r56_35, r56_38, r56_40, r56_41, r56_41n, r56_42, r56_43, r56_47, r56_48, r56_50, r56_53, r56_53n, r56_54, r56_56, r56_59, r56_61, r56_62, r56_62n, r56_63, r56_64, r56_67, r56_67n, r56_68, r56_71, i32_10, reduceIte, gm_cmp1, gm_cmp3, gm_cmp4, gm_kd_sf, gm_ln_sf, gm_sf_1, gm_sf_2, gm_nw_1, gm_nw_2, gm_k_int, gm_k_ref, gm_k_null, gm_k_u, gm_k_long, and_true, true_and, true_or, or_true, or_false, false_or, and_self, or_self, if_true, if_false, List.map_nil, List.map_cons, List.sum_nil, List.sum_cons, Nat.zero_le, Option.toList_some, Option.toList_none, List.cons_append, List.nil_append, ne_eq, not_false_eq_true, not_true_eq_false, nI_1, nI_add, Value.category, Nat.reduceAdd, Nat.reduceMod, Nat.reduceLeDiff, Nat.reduceLT, Nat.reduceEqDiff, Nat.reducePow, Nat.le_refl, Nat.add_left_cancel_iff, Nat.add_eq_left, Nat.left_eq_add, Nat.add_zero, kB, gm_fv_sfj n6, f6, e4, h4]
  refine c56_44 (by simp) (by simp only [gm_kd_sf]; exact kB) hd (x_numberAt (a := 0) (z := 4) RC (by omega)) (gx_kn ?_) gx_kx
  by_cases hh : (gs_num K 0 4).toInt32 = -1393754107
  · have n7 : (7 : Nat) ≠ 11 := by decide
    have f7 : gm_fv (gm_sf (gm_sf hB x 11 (.int 0)) x 7 (.int 4)) x 7 = .int 4 := gm_fv_sf (by rw [gm_ln_sf]; omega)
    simp only [r56_0, r56_0n, r56_1, r56_2, r56_5, r56_5n, r56_6, r56_7, r56_10, r56_10n, r56_11, r56_14, r56_15, r56_19, r56_19n, r56_20, r56_21, r56_24, r56_24n, r56_25, r56_28, r56_29, r56_32, r56_32n, r56_33, r56_35, r56_38, r56_40, r56_41, r56_41n, r56_42, r56_43, r56_47, r56_48, r56_50, r56_53, r56_53n, r56_54, r56_56, r56_59, r56_61, r56_62, r56_62n, r56_63, r56_64, r56_67, r56_67n, r56_68, r56_71, i32_10, reduceIte, gm_cmp1, gm_cmp3, gm_cmp4, gm_kd_sf, gm_ln_sf, gm_sf_1, gm_sf_2, gm_nw_1, gm_nw_2, gm_k_int, gm_k_ref, gm_k_null, gm_k_u, gm_k_long, and_true, true_and, true_or, or_true, or_false, false_or, and_self, or_self, if_true, if_false, List.map_nil, List.map_cons, List.sum_nil, List.sum_cons, Nat.zero_le, Option.toList_some, Option.toList_none, List.cons_append, List.nil_append, ne_eq, not_false_eq_true, not_true_eq_false, nI_1, nI_add, Value.category, Nat.reduceAdd, Nat.reduceMod, Nat.reduceLeDiff, Nat.reduceLT, Nat.reduceEqDiff, Nat.reducePow, Nat.le_refl, Nat.add_left_cancel_iff, Nat.add_eq_left, Nat.left_eq_add, Nat.add_zero, kB, hh, f7]
    have RD := RC.place (p := 4) (by omega)
    exact ⟨⟨RD, by rw [gm_fv_sfj (by decide)]; exact gm_fv_sf (by omega)⟩, cB⟩
  · simp only [r56_0, r56_0n, r56_1, r56_2, r56_5, r56_5n, r56_6, r56_7, r56_10, r56_10n, r56_11, r56_14, r56_15, r56_19, r56_19n, r56_20, r56_21, r56_24, r56_24n, r56_25, r56_28, r56_29, r56_32, r56_32n, r56_33, r56_35, r56_38, r56_40, r56_41, r56_41n, r56_42, r56_43, r56_47, r56_48, r56_50, r56_53, r56_53n, r56_54, r56_56, r56_59, r56_61, r56_62, r56_62n, r56_63, r56_64, r56_67, r56_67n, r56_68, r56_71, i32_10, reduceIte, gm_cmp1, gm_cmp3, gm_cmp4, gm_kd_sf, gm_ln_sf, gm_sf_1, gm_sf_2, gm_nw_1, gm_nw_2, gm_k_int, gm_k_ref, gm_k_null, gm_k_u, gm_k_long, and_true, true_and, true_or, or_true, or_false, false_or, and_self, or_self, if_true, if_false, List.map_nil, List.map_cons, List.sum_nil, List.sum_cons, Nat.zero_le, Option.toList_some, Option.toList_none, List.cons_append, List.nil_append, ne_eq, not_false_eq_true, not_true_eq_false, nI_1, nI_add, Value.category, Nat.reduceAdd, Nat.reduceMod, Nat.reduceLeDiff, Nat.reduceLT, Nat.reduceEqDiff, Nat.reducePow, Nat.le_refl, Nat.add_left_cancel_iff, Nat.add_eq_left, Nat.left_eq_add, Nat.add_zero, kB, hh]
    exact ⟨⟨RC.last, gm_fv_sf (by rw [gm_ln_sf]; omega)⟩, cB⟩
end Z4
/-! THE CLASS, 22: what changes classes and bytes. -/
section Z5
variable {E : Nat → Value} {d x b : Nat} {h h' : gm_H} {ca ca' : Nat → Nat} {K K' : gs_K} {F G : Nat → Prop} {s : gs_S} {lf : Int32}
theorem gx_ow_eq {o : Option Nat} (hc : ∀ c, o = some c → ca' c = ca c) : gx_ow ca' o = gx_ow ca o := by
  cases o with
  | none => rfl
  | some c => show Value.ref (ca' c) = .ref (ca c); rw [hc c rfl]
theorem gx_ds.kk (hn : gs_n K ≤ gs_n K') (hc : ∀ c, (gs_cls K c).isSome = true → (gs_cls K' c).isSome = true ∧ ca' c = ca c) (hnew : ∀ c, (gs_cls K' c).isSome = true → ((gs_cls K c).isSome = true ∧ ca' c = ca c) ∨ h.1 ≤ ca' c) : ∀ {L : List gs_L} {v : Value}, gx_ds h x ca K F L v → gx_ds h x ca' K' F L v
  | [], _, q => q
  | l :: L, v, q => by
    obtain ⟨a, u, w, rfl, o1, o2, o3, q1, q2, q3, q4, q5, q6, q7, q8, q9, q10, q11, q12, q13, q14, q15, q16, q17, q18, q19⟩ := q
    refine ⟨a, u, w, rfl, o1, o2, o3, q1, q2, q3, q4, q5, q6, q7, q8, q9, ?_, q11, q12, q13, q14, ⟨q15.1, fun c z => ?_⟩, Nat.le_trans q16 hn, fun c z => ⟨(q17 c z).1, (hc c (q17 c z).2).1⟩, q18, gx_ds.kk hn hc hnew q19⟩
    · rw [q10, gx_ow_eq (fun c z => (hc c (q17 c z).2).2)]
    · rcases hnew c z with ⟨z1, z2⟩ | z1
      · rw [z2]; exact q15.2 c z1
      · have := o2.2.1
        have := o3.2.1
        omega
theorem gx_th.kk {o : gs_O} {t : Nat} (q : gx_th h ca o t) (hc : ∀ c, o.2.1 = some c → ca' c = ca c) : gx_th h ca' o t := by
  obtain ⟨q1, q2, q3, q4⟩ := q
  exact ⟨q1, q2, by rw [q3, gx_ow_eq hc], q4⟩
/-- other classes, more bytes: cells of the region as before -/
theorem gx_R.chg (R : gx_R E h x ca K F s) (g : gx_ag h h' x F) (hA : gx_A h' x) (hB : gx_B h' x K') (hC : gx_C E h' x ca' K' F) (hM : gx_M h' x K' s) (h3 : ∀ i, i < (gs_hp s).length → gm_fv h' (x + 3) i = gm_fv h (x + 3) i) (h5 : ∀ i, i < (gs_hs s).length → gm_fv h' (x + 5) i = gm_fv h (x + 5) i ∧ gm_fv h' (x + 6) i = gm_fv h (x + 6) i)
    (hn : gs_n K ≤ gs_n K') (hc : ∀ c, (gs_cls K c).isSome = true → (gs_cls K' c).isSome = true ∧ ca' c = ca c) (hnew : ∀ c, (gs_cls K' c).isSome = true → ((gs_cls K c).isSome = true ∧ ca' c = ca c) ∨ h.1 ≤ ca' c) : gx_R E h' x ca' K' F s := by
  obtain ⟨q1, q2, q3, q4, ⟨ta, q5⟩, q6, q7⟩ := R
  refine ⟨hA, hB, hC, hM, ⟨ta, q5.1, fun i o z => ?_⟩, fun i e z => ?_, fun i o c z z2 => (hc c (q7.1 i o c z z2)).1, q7.2⟩
  · obtain ⟨b1, b2, b3⟩ := q5.2 i o z
    exact ⟨by rw [h3 i (List.getElem?_eq_some_iff.mp z).1]; exact b1, ⟨b2.1.tr g.1, b2.2.tr g.1⟩, (b3.tr (g.2 _ b2.1) (g.2 _ b2.2)).kk (fun c z2 => (hc c (q7.1 i o c z z2)).2)⟩
  · have := h5 i (List.getElem?_eq_some_iff.mp z).1
    rw [this.1, this.2]
    exact ⟨(q6 i e z).1, (gx_ds.kk hn hc hnew (q6 i e z).2).tr g⟩
/-- a byte more -/
def gs_put1 (K : gs_K) (u : UInt8) : gs_K := (K.1, gs_cls K, (fun i => if i = gs_n K then u else gs_by K i), gs_n K + 1, K.2.2.2.2)
theorem gx_R.put1 {u : UInt8} (R : gx_R E h x ca K F s) (hn : gs_n K < 700) : gx_R E (gm_sf (gm_sf h (x + 2) (gs_n K) (.int u.toInt8.toInt32)) x 6 (.int (nI (gs_n K + 1)))) x ca (gs_put1 K u) F s := by
  have l0 : gm_ln h x = 13 := R.len.1
  obtain ⟨z1, z2, z3, z4, z5, z6, z7, z8, z9⟩ := R.2.2.2.1
  have A := R.1
  have A2l := A.2.2.2.2.2.2.2.2.1
  have hf : ∀ b j, b ≠ x + 2 → (b ≠ x ∨ j ≠ 6) → gm_fv (gm_sf (gm_sf h (x + 2) (gs_n K) (.int u.toInt8.toInt32)) x 6 (.int (nI (gs_n K + 1)))) b j = gm_fv h b j := fun b j h2 h0 => by
    rcases h0 with z | z
    · rw [gm_fv_sfa z, gm_fv_sfa h2]
    · rw [gm_fv_sfj z, gm_fv_sfa h2]
  have g : gx_ag h (gm_sf (gm_sf h (x + 2) (gs_n K) (.int u.toInt8.toInt32)) x 6 (.int (nI (gs_n K + 1)))) x F := (gx_ag.sf (gx_ok.no (by omega))).trans (gx_ag.sf (gx_ok.no (by omega)))
  refine R.chg (ca' := ca) (K' := gs_put1 K u) g ?_ ?_ (show gx_C E _ x ca K F from R.2.2.1.tr g (fun c _ => hf _ _ (by omega) (Or.inl (by omega)))) ⟨?_, Nat.le_succ_of_le z2, ?_, z4, ?_, ?_, z7, z8, ?_⟩ (fun i _ => hf _ _ (by omega) (Or.inl (by omega))) (fun i _ => ⟨hf _ _ (by omega) (Or.inl (by omega)), hf _ _ (by omega) (Or.inl (by omega))⟩) (Nat.le_succ _) (fun c z => ⟨z, rfl⟩) (fun c z => Or.inl ⟨z, rfl⟩)
  · unfold gx_A at A ⊢
    simp only [gm_kd_sf, gm_ln_sf, gm_sf_1, hf x 4 (by omega) (Or.inr (by decide)), hf x 5 (by omega) (Or.inr (by decide)), hf x 8 (by omega) (Or.inr (by decide)), hf x 10 (by omega) (Or.inr (by decide)), hf (x + 4) _ (by omega) (Or.inl (by omega))]
    exact A
  · obtain ⟨B0, B1, B2, B3, B6, B7, B8⟩ := R.2.1
    refine ⟨?_, ?_, ?_, ?_, ?_, hn, fun i hi => ?_⟩
    · rw [hf _ _ (by omega) (Or.inr (by decide))]; exact B0
    · rw [hf _ _ (by omega) (Or.inr (by decide))]; exact B1
    · rw [hf _ _ (by omega) (Or.inr (by decide))]; exact B2
    · rw [hf _ _ (by omega) (Or.inr (by decide))]; exact B3
    · rw [gm_fv_sf (by rw [gm_ln_sf]; omega)]; rfl
    · have hi : i < gs_n K + 1 := hi
      rw [gm_fv_sfa (by omega)]
      by_cases e : i = gs_n K
      · subst e
        rw [gm_fv_sf (by omega)]
        show Value.int u.toInt8.toInt32 = .int ((if gs_n K = gs_n K then u else gs_by K (gs_n K)).toInt8.toInt32)
        rw [if_pos rfl]
      · rw [gm_fv_sfj e, B8 i (by omega)]
        show Value.int ((gs_by K i).toInt8.toInt32) = .int ((if i = gs_n K then u else gs_by K i).toInt8.toInt32)
        rw [if_neg e]
  · rw [hf _ _ (by omega) (Or.inr (by decide))]; exact z1
  · rw [hf _ _ (by omega) (Or.inr (by decide))]; exact z3
  · rw [hf _ _ (by omega) (Or.inl (by omega))]; exact z5
  · rw [hf _ _ (by omega) (Or.inl (by omega))]; exact z6
  · rw [hf _ _ (by omega) (Or.inr (by decide))]; exact z9
/-- the byte of a number that stands so many bytes from its end -/
def gs_pb (v : Int64) (k : Nat) : UInt8 := ((v.toUInt64 >>> (((8 : Int32) * nI k).toInt64.toUInt64 &&& Int64.toUInt64 63)).toInt64.toInt32.toInt8).toUInt8
def gs_puts (K : gs_K) (v : Int64) : Nat → gs_K
  | 0 => K
  | k + 1 => gs_puts (gs_put1 K (gs_pb v k)) v k
theorem gs_puts_n {v : Int64} : ∀ (k : Nat) (K : gs_K), gs_n (gs_puts K v k) = gs_n K + k
  | 0, _ => rfl
  | k + 1, K => by
    show gs_n (gs_puts (gs_put1 K (gs_pb v k)) v k) = _
    rw [gs_puts_n k]
    show gs_n K + 1 + k = _
    omega
def gs_putr (K : gs_K) (v : Int64) (c : Int32) : Int32 × gs_K := if c < 1 ∨ 8 < c ∨ 700 < gs_n K + c.toNatClampNeg then (-1, K) else (nI (gs_n K + c.toNatClampNeg), gs_puts K v c.toNatClampNeg)
theorem x_put {v : Int64} {c : Int32} (X : gx_X E h x ca K s lf) : gm_Ca E d 55 [.ref x, .long v, .int c] h (fun r h' => r = .inl (some (.int (gs_putr K v c).1)) ∧ gx_X E h' x ca (gs_putr K v c).2 s lf ∧ h'.1 = h.1 ∧ h'.2.1 = h.2.1) := by
  obtain ⟨R, f11⟩ := X
  have A0 := R.1.1
  have hn7 := R.2.1.2.2.2.2.2.1
  have B6 := R.2.1.2.2.2.2.1
  have loop : ∀ (m : Nat) (K : gs_K) (h : gm_H), m ≤ 8 → gs_n K + m ≤ 700 → gx_X E h x ca K s lf → gm_W E d 55 30 [.ref x, .long v, gm_u, .int c, .int (nI m - 1)] [] h (fun r h' => r = .inl (some (.int (nI (gs_n K + m)))) ∧ gx_X E h' x ca (gs_puts K v m) s lf ∧ h'.1 = h.1 ∧ h'.2.1 = h.2.1) := by
    intro m
    induction m with
    | zero =>
      intro K h hm8 hm X
      have m1 : nI 0 - 1 < 0 := by decide
      have B6 := X.1.2.1.2.2.2.2.1
      simp only [r55_0, r55_1, r55_2, r55_5, r55_6, r55_8, r55_11, r55_11n, r55_12, r55_15, r55_16, r55_17, r55_20, r55_23, r55_24, r55_25, r55_26, r55_27, r55_28, r55_30, r55_32, r55_35, r55_35n, r55_36, r55_39, r55_39n, r55_40, r55_43, r55_44, r55_46, r55_48, r55_49, r55_50, r55_51, r55_52, r55_52z, r55_53, r55_53n, r55_54, r55_54i, r55_55, r55_58, r55_59, r55_60, r55_63, r55_66, r55_69, r55_69n, r55_70, r55_73, i32_10, reduceIte, gm_cmp1, gm_cmp3, gm_cmp4, gm_kd_sf, gm_ln_sf, gm_sf_1, gm_sf_2, gm_nw_1, gm_nw_2, gm_k_int, gm_k_ref, gm_k_null, gm_k_u, gm_k_long, and_true, true_and, true_or, or_true, or_false, false_or, and_self, or_self, if_true, if_false, List.map_nil, List.map_cons, List.sum_nil, List.sum_cons, Nat.zero_le, Option.toList_some, Option.toList_none, List.cons_append, List.nil_append, ne_eq, not_false_eq_true, not_true_eq_false, nI_1, nI_add, Value.category, Nat.reduceAdd, Nat.reduceMod, Nat.reduceLeDiff, Nat.reduceLT, Nat.reduceEqDiff, Nat.reducePow, Nat.le_refl, Nat.add_left_cancel_iff, Nat.add_eq_left, Nat.left_eq_add, Nat.add_zero, m1, X.1.1.1, B6]
      exact X
    | succ m ih =>
      intro K h hm8 hm X
      obtain ⟨R, f11⟩ := X
      have em : nI (m + 1) - 1 = nI m := nI_sub (b := 1) (by omega)
      obtain ⟨A0, -, A5, -, -, -, -, A2, A2l, -⟩ := R.1
      have B6 := R.2.1.2.2.2.2.1
      have hn : gs_n K < 700 := by omega
      have n0 : x ≠ x + 2 := by omega
      rw [r55_30]
      simp only [r55_0, r55_1, r55_2, r55_5, r55_6, r55_8, r55_11, r55_11n, r55_12, r55_15, r55_16, r55_17, r55_20, r55_23, r55_24, r55_25, r55_26, r55_27, r55_28, r55_32, r55_35, r55_35n, r55_36, r55_39, r55_39n, r55_40, r55_43, r55_44, r55_46, r55_48, r55_49, r55_50, r55_51, r55_52, r55_52z, r55_53, r55_53n, r55_54, r55_54i, r55_55, r55_58, r55_59, r55_60, r55_63, r55_66, r55_69, r55_69n, r55_70, r55_73, i32_10, reduceIte, gm_cmp1, gm_cmp3, gm_cmp4, gm_kd_sf, gm_ln_sf, gm_sf_1, gm_sf_2, gm_nw_1, gm_nw_2, gm_k_int, gm_k_ref, gm_k_null, gm_k_u, gm_k_long, and_true, true_and, true_or, or_true, or_false, false_or, and_self, or_self, if_true, if_false, List.map_nil, List.map_cons, List.sum_nil, List.sum_cons, Nat.zero_le, Option.toList_some, Option.toList_none, List.cons_append, List.nil_append, ne_eq, not_false_eq_true, not_true_eq_false, nI_1, nI_add, Value.category, Nat.reduceAdd, Nat.reduceMod, Nat.reduceLeDiff, Nat.reduceLT, Nat.reduceEqDiff, Nat.reducePow, Nat.le_refl, Nat.add_left_cancel_iff, Nat.add_eq_left, Nat.left_eq_add, Nat.add_zero, em, nI_pos (show m < 2 ^ 31 by omega), A0, A5, B6, A2, A2l, hn, gm_fv_sfa n0]
      rw [← em, nI_dn]
      have eb : ((v.toUInt64 >>> (((8 : Int32) * nI m).toInt64.toUInt64 &&& Int64.toUInt64 63)).toInt64.toInt32.toInt8.toInt32) = (gs_pb v m).toInt8.toInt32 := by
        unfold gs_pb
        rfl
      rw [em, eb, Int8.toInt8_toInt32]
      have X1 : gx_X E (gm_sf (gm_sf h (x + 2) (gs_n K) (.int (gs_pb v m).toInt8.toInt32)) x 6 (.int (nI (gs_n K + 1)))) x ca (gs_put1 K (gs_pb v m)) s lf := ⟨R.put1 hn, by rw [gm_fv_sfj (by decide), gm_fv_sfa n0]; exact f11⟩
      have e1 : gs_n (gs_put1 K (gs_pb v m)) = gs_n K + 1 := rfl
      refine gm_W.mono (ih (gs_put1 K (gs_pb v m)) _ (by omega) (by rw [e1]; omega) X1) (fun r h' w => ?_)
      rw [e1, show gs_n K + 1 + m = gs_n K + (m + 1) by omega] at w
      simp only [gm_sf_1, gm_sf_2] at w
      exact w
  show gm_W E d 55 0 [.ref x, .long v, gm_u, .int c, gm_u] [] h _
  unfold gs_putr
  by_cases c1 : c < 1
  · simp only [r55_0, r55_1, r55_2, r55_5, r55_6, r55_8, r55_11, r55_11n, r55_12, r55_15, r55_16, r55_17, r55_20, r55_23, r55_24, r55_25, r55_26, r55_27, r55_28, r55_30, r55_32, r55_35, r55_35n, r55_36, r55_39, r55_39n, r55_40, r55_43, r55_44, r55_46, r55_48, r55_49, r55_50, r55_51, r55_52, r55_52z, r55_53, r55_53n, r55_54, r55_54i, r55_55, r55_58, r55_59, r55_60, r55_63, r55_66, r55_69, r55_69n, r55_70, r55_73, i32_10, reduceIte, gm_cmp1, gm_cmp3, gm_cmp4, gm_kd_sf, gm_ln_sf, gm_sf_1, gm_sf_2, gm_nw_1, gm_nw_2, gm_k_int, gm_k_ref, gm_k_null, gm_k_u, gm_k_long, and_true, true_and, true_or, or_true, or_false, false_or, and_self, or_self, if_true, if_false, List.map_nil, List.map_cons, List.sum_nil, List.sum_cons, Nat.zero_le, Option.toList_some, Option.toList_none, List.cons_append, List.nil_append, ne_eq, not_false_eq_true, not_true_eq_false, nI_1, nI_add, Value.category, Nat.reduceAdd, Nat.reduceMod, Nat.reduceLeDiff, Nat.reduceLT, Nat.reduceEqDiff, Nat.reducePow, Nat.le_refl, Nat.add_left_cancel_iff, Nat.add_eq_left, Nat.left_eq_add, Nat.add_zero, c1]
    exact ⟨R, f11⟩
  by_cases c8 : 8 < c
  · simp only [r55_0, r55_1, r55_2, r55_5, r55_6, r55_8, r55_11, r55_11n, r55_12, r55_15, r55_16, r55_17, r55_20, r55_23, r55_24, r55_25, r55_26, r55_27, r55_28, r55_30, r55_32, r55_35, r55_35n, r55_36, r55_39, r55_39n, r55_40, r55_43, r55_44, r55_46, r55_48, r55_49, r55_50, r55_51, r55_52, r55_52z, r55_53, r55_53n, r55_54, r55_54i, r55_55, r55_58, r55_59, r55_60, r55_63, r55_66, r55_69, r55_69n, r55_70, r55_73, i32_10, reduceIte, gm_cmp1, gm_cmp3, gm_cmp4, gm_kd_sf, gm_ln_sf, gm_sf_1, gm_sf_2, gm_nw_1, gm_nw_2, gm_k_int, gm_k_ref, gm_k_null, gm_k_u, gm_k_long, and_true, true_and, true_or, or_true, or_false, false_or, and_self, or_self, if_true, if_false, List.map_nil, List.map_cons, List.sum_nil, List.sum_cons, Nat.zero_le, Option.toList_some, Option.toList_none, List.cons_append, List.nil_append, ne_eq, not_false_eq_true, not_true_eq_false, nI_1, nI_add, Value.category, Nat.reduceAdd, Nat.reduceMod, Nat.reduceLeDiff, Nat.reduceLT, Nat.reduceEqDiff, Nat.reducePow, Nat.le_refl, Nat.add_left_cancel_iff, Nat.add_eq_left, Nat.left_eq_add, Nat.add_zero, c1, c8]
    exact ⟨R, f11⟩
  have c0 : ¬ c < 0 := fun z => c1 (Int32.lt_of_lt_of_le z (by decide))
  obtain ⟨m, hm, rfl⟩ := nI_of c0
  have hm8 : m ≤ 8 := Nat.le_of_not_lt (fun z => c8 ((nI_ltI (a := 8) (by decide) hm).mpr z))
  rw [nI_clamp hm]
  by_cases h7 : 700 < gs_n K + m
  · have e7 : ¬ nI (gs_n K + m) ≤ 700 := nI_ge (a := 700) h7 (by omega)
    simp only [r55_0, r55_1, r55_2, r55_5, r55_6, r55_8, r55_11, r55_11n, r55_12, r55_15, r55_16, r55_17, r55_20, r55_23, r55_24, r55_25, r55_26, r55_27, r55_28, r55_30, r55_32, r55_35, r55_35n, r55_36, r55_39, r55_39n, r55_40, r55_43, r55_44, r55_46, r55_48, r55_49, r55_50, r55_51, r55_52, r55_52z, r55_53, r55_53n, r55_54, r55_54i, r55_55, r55_58, r55_59, r55_60, r55_63, r55_66, r55_69, r55_69n, r55_70, r55_73, i32_10, reduceIte, gm_cmp1, gm_cmp3, gm_cmp4, gm_kd_sf, gm_ln_sf, gm_sf_1, gm_sf_2, gm_nw_1, gm_nw_2, gm_k_int, gm_k_ref, gm_k_null, gm_k_u, gm_k_long, and_true, true_and, true_or, or_true, or_false, false_or, and_self, or_self, if_true, if_false, List.map_nil, List.map_cons, List.sum_nil, List.sum_cons, Nat.zero_le, Option.toList_some, Option.toList_none, List.cons_append, List.nil_append, ne_eq, not_false_eq_true, not_true_eq_false, nI_1, nI_add, Value.category, Nat.reduceAdd, Nat.reduceMod, Nat.reduceLeDiff, Nat.reduceLT, Nat.reduceEqDiff, Nat.reducePow, Nat.le_refl, Nat.add_left_cancel_iff, Nat.add_eq_left, Nat.left_eq_add, Nat.add_zero, c1, c8, A0, B6, e7, h7]
    exact ⟨R, f11⟩
  · have e7 : nI (gs_n K + m) ≤ 700 := nI_le (b := 700) (by omega) (by decide)
    simp only [r55_0, r55_1, r55_2, r55_5, r55_6, r55_8, r55_11, r55_11n, r55_12, r55_15, r55_16, r55_17, r55_20, r55_23, r55_24, r55_25, r55_26, r55_27, r55_28, r55_32, r55_35, r55_35n, r55_36, r55_39, r55_39n, r55_40, r55_43, r55_44, r55_46, r55_48, r55_49, r55_50, r55_51, r55_52, r55_52z, r55_53, r55_53n, r55_54, r55_54i, r55_55, r55_58, r55_59, r55_60, r55_63, r55_66, r55_69, r55_69n, r55_70, r55_73, i32_10, reduceIte, gm_cmp1, gm_cmp3, gm_cmp4, gm_kd_sf, gm_ln_sf, gm_sf_1, gm_sf_2, gm_nw_1, gm_nw_2, gm_k_int, gm_k_ref, gm_k_null, gm_k_u, gm_k_long, and_true, true_and, true_or, or_true, or_false, false_or, and_self, or_self, if_true, if_false, List.map_nil, List.map_cons, List.sum_nil, List.sum_cons, Nat.zero_le, Option.toList_some, Option.toList_none, List.cons_append, List.nil_append, ne_eq, not_false_eq_true, not_true_eq_false, nI_1, nI_add, Value.category, Nat.reduceAdd, Nat.reduceMod, Nat.reduceLeDiff, Nat.reduceLT, Nat.reduceEqDiff, Nat.reducePow, Nat.le_refl, Nat.add_left_cancel_iff, Nat.add_eq_left, Nat.left_eq_add, Nat.add_zero, c1, c8, A0, B6, e7, h7]
    exact loop m K h hm8 (by omega) ⟨R, f11⟩
end Z5
/-! THE CLASS, 23: define. -/
section Z6
variable {E : Nat → Value} {d x b : Nat} {h h' : gm_H} {ca ca' : Nat → Nat} {K K' : gs_K} {F G : Nat → Prop} {s : gs_S} {lf : Int32}
/-- a local class made at a -/
def gx_mc (h : gm_H) (a : Nat) (n k : Int32) (su : Value) (id : Int64) : gm_H := gm_sf (gm_sf (gm_sf (gm_sf (gm_sf (gm_nw (gm_sf (gm_nw h (100, List.replicate 4 (.int 0)) 4) a 4 (.ref h.1)) (100, List.replicate 4 (.int 0)) 4) a 5 (.ref (h.1 + 1))) a 0 (.int n)) a 1 (.int k)) a 2 su) a 3 (.long id)
def gx_c1 (h : gm_H) : gm_H := gm_nw h (3, [.int 0, .int 0, .null, .long 0, .null, .null, .int 0, .int 0, .int 0]) 9
theorem gx_c1_1 : (gx_c1 h).1 = h.1 + 1 := rfl
theorem x_LocalClass {n k : Int32} {u : Option Nat} {id : Int64} : gm_Ca E d 114 [.ref h.1, .int n, .int k, gx_ow ca u, .long id] (gx_c1 h) (gx_v none (gx_mc (gx_c1 h) h.1 n k (gx_ow ca u) id)) := by
  have ht : gm_kd (gx_c1 h) h.1 = 3 := by unfold gx_c1; rw [gm_kd_nw1]; rfl
  have hne : h.1 ≠ h.1 + 1 := by omega
  have hne2 : h.1 ≠ h.1 + 1 + 1 := by omega
  have k1 : gm_kd (gm_nw (gx_c1 h) (100, List.replicate 4 (.int 0)) 4) h.1 = 3 := by rw [gm_kd_nw (by rw [gx_c1_1]; omega)]; exact ht
  have k2 : gm_kd (gm_nw (gm_sf (gm_nw (gx_c1 h) (100, List.replicate 4 (.int 0)) 4) h.1 4 (.ref (h.1 + 1))) (100, List.replicate 4 (.int 0)) 4) h.1 = 3 := by rw [gm_kd_nw (by simp only [gm_sf_1, gm_nw_1, gx_c1_1]; omega), gm_kd_sf]; exact k1
  cases u with
  | none =>
    show gm_W E d 114 0 [.ref h.1, .int n, .int k, .null, .long id, gm_u] [] (gx_c1 h) _
    simp only [r114_0, r114_0n, r114_1, r114_4, r114_4n, r114_5, r114_6, r114_8, r114_8n, r114_11, r114_11n, r114_12, r114_13, r114_15, r114_15n, r114_18, r114_18n, r114_19, r114_20, r114_23, r114_23n, r114_24, r114_25, r114_28, r114_28n, r114_29, r114_29n, r114_30, r114_30n, r114_33, r114_33n, r114_34, r114_36, r114_39, i32_10, reduceIte, gm_cmp1, gm_cmp3, gm_cmp4, gm_kd_sf, gm_ln_sf, gm_sf_1, gm_sf_2, gm_nw_1, gm_nw_2, gm_k_int, gm_k_ref, gm_k_null, gm_k_u, gm_k_long, and_true, true_and, true_or, or_true, or_false, false_or, and_self, or_self, if_true, if_false, List.map_nil, List.map_cons, List.sum_nil, List.sum_cons, Nat.zero_le, Option.toList_some, Option.toList_none, List.cons_append, List.nil_append, ne_eq, not_false_eq_true, not_true_eq_false, nI_1, nI_add, Value.category, Nat.reduceAdd, Nat.reduceMod, Nat.reduceLeDiff, Nat.reduceLT, Nat.reduceEqDiff, Nat.reducePow, Nat.le_refl, Nat.add_left_cancel_iff, Nat.add_eq_left, Nat.left_eq_add, Nat.add_zero, ht, gx_c1_1, k1, k2]
    exact ⟨rfl, by unfold gx_mc; simp only [gm_sf_1, gx_c1_1, gx_ow, gm_nw_1]⟩
  | some c =>
    show gm_W E d 114 0 [.ref h.1, .int n, .int k, .ref (ca c), .long id, gm_u] [] (gx_c1 h) _
    simp only [r114_0, r114_0n, r114_1, r114_4, r114_4n, r114_5, r114_6, r114_8, r114_8n, r114_11, r114_11n, r114_12, r114_13, r114_15, r114_15n, r114_18, r114_18n, r114_19, r114_20, r114_23, r114_23n, r114_24, r114_25, r114_28, r114_28n, r114_29, r114_29n, r114_30, r114_30n, r114_33, r114_33n, r114_34, r114_36, r114_39, i32_10, reduceIte, gm_cmp1, gm_cmp3, gm_cmp4, gm_kd_sf, gm_ln_sf, gm_sf_1, gm_sf_2, gm_nw_1, gm_nw_2, gm_k_int, gm_k_ref, gm_k_null, gm_k_u, gm_k_long, and_true, true_and, true_or, or_true, or_false, false_or, and_self, or_self, if_true, if_false, List.map_nil, List.map_cons, List.sum_nil, List.sum_cons, Nat.zero_le, Option.toList_some, Option.toList_none, List.cons_append, List.nil_append, ne_eq, not_false_eq_true, not_true_eq_false, nI_1, nI_add, Value.category, Nat.reduceAdd, Nat.reduceMod, Nat.reduceLeDiff, Nat.reduceLT, Nat.reduceEqDiff, Nat.reducePow, Nat.le_refl, Nat.add_left_cancel_iff, Nat.add_eq_left, Nat.left_eq_add, Nat.add_zero, ht, gx_c1_1, k1, k2]
    exact ⟨rfl, by unfold gx_mc; simp only [gm_sf_1, gx_c1_1, gx_ow, gm_nw_1]⟩
theorem gx_mc_1 {n k : Int32} {su : Value} {id : Int64} : (gx_mc (gx_c1 h) h.1 n k su id).1 = h.1 + 3 ∧ (gx_mc (gx_c1 h) h.1 n k su id).2.1 = h.2.1 + 17 := by
  unfold gx_mc gx_c1
  simp only [gm_sf_1, gm_sf_2, gm_nw_1, gm_nw_2, Nat.add_assoc, and_self]
theorem gx_mc_rd {n k : Int32} {su : Value} {id : Int64} : ∀ a, a < h.1 → gm_rd (gx_mc (gx_c1 h) h.1 n k su id) a = gm_rd h a := by
  intro a ha
  unfold gx_mc gx_c1
  rw [gm_rd_sfn (by omega), gm_rd_sfn (by omega), gm_rd_sfn (by omega), gm_rd_sfn (by omega), gm_rd_sfn (by omega), gm_rd_nwn (by simp only [gm_sf_1, gm_nw_1]; omega), gm_rd_sfn (by omega), gm_rd_nwn (by simp only [gm_nw_1]; omega), gm_rd_nwn (by omega)]
theorem gx_mc_cl {n : Nat} {k : Int32} {u : Option Nat} {id : Int64} (hx : x + 6 < h.1) : gx_cl (gx_mc (gx_c1 h) h.1 (nI n) k (gx_ow ca u) id) x ca (fun _ => False) n (k, u, id, [], false, 0) h.1 := by
  have k0 : gm_kd (gx_c1 h) h.1 = 3 := by unfold gx_c1; rw [gm_kd_nw1]; rfl
  have l0 : gm_ln (gx_c1 h) h.1 = 9 := gm_ln_nw1
  have f0 : ∀ j, gm_fv (gx_c1 h) h.1 j = ([.int 0, .int 0, .null, .long 0, .null, .null, .int 0, .int 0, .int 0] : List Value).getD j gm_u := fun j => gm_fv_nw1
  obtain ⟨h1, h1e⟩ : ∃ h1, h1 = gm_sf (gm_nw (gx_c1 h) (100, List.replicate 4 (.int 0)) 4) h.1 4 (.ref (gx_c1 h).1) := ⟨_, rfl⟩
  have c1 : h1.1 = h.1 + 2 := by rw [h1e]; simp only [gm_sf_1, gm_nw_1, gx_c1_1]
  have na : h.1 ≠ (gx_c1 h).1 := by rw [gx_c1_1]; omega
  have k1 : gm_kd h1 h.1 = 3 := by rw [h1e, gm_kd_sf, gm_kd_nw na]; exact k0
  have l1 : gm_ln h1 h.1 = 9 := by rw [h1e, gm_ln_sf, gm_ln_nw na]; exact l0
  have f14 : gm_fv h1 h.1 4 = .ref (h.1 + 1) := by rw [h1e, gm_fv_sf (by rw [gm_ln_nw na, l0]; decide)]; rfl
  have f1 : ∀ j, j ≠ 4 → gm_fv h1 h.1 j = ([.int 0, .int 0, .null, .long 0, .null, .null, .int 0, .int 0, .int 0] : List Value).getD j gm_u := fun j hj => by rw [h1e, gm_fv_sfj hj, gm_fv_nw na]; exact f0 j
  have ka1 : gm_kd h1 (h.1 + 1) = 100 := by rw [h1e, gm_kd_sf, ← gx_c1_1, gm_kd_nw1]; rfl
  have la1 : gm_ln h1 (h.1 + 1) = 4 := by rw [h1e, gm_ln_sf, ← gx_c1_1, gm_ln_nw1]; rfl
  obtain ⟨h2, h2e⟩ : ∃ h2, h2 = gm_nw h1 (100, List.replicate 4 (.int 0)) 4 := ⟨_, rfl⟩
  have nb : h.1 ≠ h1.1 := by omega
  have nc : h.1 + 1 ≠ h1.1 := by omega
  have e2 : gx_mc (gx_c1 h) h.1 (nI n) k (gx_ow ca u) id = gm_sf (gm_sf (gm_sf (gm_sf (gm_sf h2 h.1 5 (.ref (h.1 + 2))) h.1 0 (.int (nI n))) h.1 1 (.int k)) h.1 2 (gx_ow ca u)) h.1 3 (.long id) := by
    rw [h2e, h1e]
    rfl
  have k2 : gm_kd h2 h.1 = 3 := by rw [h2e, gm_kd_nw nb]; exact k1
  have l2 : gm_ln h2 h.1 = 9 := by rw [h2e, gm_ln_nw nb]; exact l1
  have n1 : h.1 + 1 ≠ h.1 := by omega
  have n2 : h.1 + 2 ≠ h.1 := by omega
  have f2 : ∀ j, j ≠ 4 → gm_fv h2 h.1 j = ([.int 0, .int 0, .null, .long 0, .null, .null, .int 0, .int 0, .int 0] : List Value).getD j gm_u := fun j hj => by rw [h2e, gm_fv_nw nb]; exact f1 j hj
  have c2 : h2.1 = h.1 + 3 := by rw [h2e, gm_nw_1, c1]
  rw [e2]
  refine ⟨⟨⟨Or.inr hx, by simp only [gm_sf_1]; omega, fun z => z⟩, ⟨Or.inr (by omega), by simp only [gm_sf_1]; omega, fun z => z⟩, ⟨Or.inr (by omega), by simp only [gm_sf_1]; omega, fun z => z⟩⟩, ?_, ?_, ?_, ?_, ?_, ?_, ?_, ?_, ?_, ?_, Nat.zero_le _, ?_, ?_, ?_, ?_, fun j q hj => by simp [gs_fs] at hj⟩
  · simp only [gm_kd_sf]; exact k2
  · rw [gm_fv_sfj (by decide), gm_fv_sfj (by decide), gm_fv_sfj (by decide), gm_fv_sf (by simp only [gm_ln_sf, l2]; decide)]
  · rw [gm_fv_sfj (by decide), gm_fv_sfj (by decide), gm_fv_sf (by simp only [gm_ln_sf, l2]; decide)]; rfl
  · rw [gm_fv_sfj (by decide), gm_fv_sf (by simp only [gm_ln_sf, l2]; decide)]; rfl
  · rw [gm_fv_sf (by simp only [gm_ln_sf, l2]; decide)]; rfl
  · rw [gm_fv_sfj (by decide), gm_fv_sfj (by decide), gm_fv_sfj (by decide), gm_fv_sfj (by decide), gm_fv_sfj (by decide), h2e, gm_fv_nw nb]; exact f14
  · rw [gm_fv_sfj (by decide), gm_fv_sfj (by decide), gm_fv_sfj (by decide), gm_fv_sfj (by decide), gm_fv_sf (by rw [l2]; decide)]
  · rw [gm_fv_sfj (by decide), gm_fv_sfj (by decide), gm_fv_sfj (by decide), gm_fv_sfj (by decide), gm_fv_sfj (by decide), f2 6 (by decide)]; rfl
  · rw [gm_fv_sfj (by decide), gm_fv_sfj (by decide), gm_fv_sfj (by decide), gm_fv_sfj (by decide), gm_fv_sfj (by decide), f2 7 (by decide)]; rfl
  · rw [gm_fv_sfj (by decide), gm_fv_sfj (by decide), gm_fv_sfj (by decide), gm_fv_sfj (by decide), gm_fv_sfj (by decide), f2 8 (by decide)]; rfl
  · simp only [gm_kd_sf]; rw [h2e, gm_kd_nw nc]; exact ka1
  · simp only [gm_ln_sf]; rw [h2e, gm_ln_nw nc]; exact la1
  · simp only [gm_kd_sf]; rw [h2e, show h.1 + 2 = h1.1 by omega, gm_kd_nw1]; rfl
  · simp only [gm_ln_sf]; rw [h2e, show h.1 + 2 = h1.1 by omega, gm_ln_nw1]; rfl
/-- classes with one more -/
def gs_def1 (K : gs_K) (n : Nat) (C : gs_C) : gs_K := (K.1, (fun i => if i = n then some C else gs_cls K i), K.2.2)
def gs_ext (k a : Int32) : Bool := if 2 < a then false else if k ≤ 2 then (if k = 0 then decide (a = 0) else true) else false
/-- may it be defined; over which -/
def gs_defok (K : gs_K) (n k u : Int32) : Bool := decide (0 ≤ n) && decide (n < 6) && decide (0 ≤ k) && decide (k ≤ 4) && decide (-1 ≤ u) && decide (u < n) && (gs_cls K n.toNatClampNeg).isNone && (decide (u < 0) || (gs_cls K u.toNatClampNeg).any (fun C => gs_ext k (gs_kind C)))
def gs_defsup (u : Int32) : Option Nat := if u < 0 then none else some u.toNatClampNeg
theorem gx_C.def1 {n : Nat} {C : gs_C} (R : gx_C E h x ca K (fun _ => False)) (hn : n < 6) (hno : gs_cls K n = none) (hr : ∀ b, b < h.1 → b ≠ x + 1 → gm_rd h' b = gm_rd h b) (hx : x + 6 < h.1) (hle : h.1 ≤ h'.1) (hf : ∀ c, c ≠ n → gm_fv h' (x + 1) c = gm_fv h (x + 1) c) (hfn : gm_fv h' (x + 1) n = .ref h.1) (hcl : gx_cl h' x ca (fun _ => False) n C h.1) (hsup : ∀ s, gs_sup C = some s → s < n ∧ (gs_cls K s).isSome = true) :
    gx_C E h' x (fun c => if c = n then h.1 else ca c) (gs_def1 K n C) (fun _ => False) := by
  have g : gx_ag h h' x (fun _ => False) := ⟨hle, fun b o => hr b o.2.1 (by have := o.1; omega)⟩
  have ow : ∀ o : Option Nat, (∀ c, o = some c → (gs_cls K c).isSome = true) → gx_ow (fun c => if c = n then h.1 else ca c) o = gx_ow ca o := fun o ho => gx_ow_eq (fun c e => by
    have := ho c e
    have hne : c ≠ n := fun z => by rw [z, hno] at this; cases this
    show (if c = n then h.1 else ca c) = ca c
    rw [if_neg hne])
  refine ⟨⟨R.1.1.tr g, fun c hc => ?_⟩, fun c hc => ⟨fun z => ?_, fun C' z => ?_⟩⟩
  · show (if c = n then some C else gs_cls K c) = none
    rw [if_neg (by omega)]
    exact R.1.2 c hc
  · have z : (if c = n then some C else gs_cls K c) = none := z
    by_cases e : c = n
    · rw [if_pos e] at z; cases z
    · rw [if_neg e] at z
      rw [hf c e]
      exact (R.2 c hc).1 z
  · have z : (if c = n then some C else gs_cls K c) = some C' := z
    by_cases e : c = n
    · rw [if_pos e] at z
      cases z
      subst e
      refine ⟨by rw [hfn]; simp, ?_, fun s hs => ⟨(hsup s hs).1, ?_⟩⟩
      · simp only [if_true]
        obtain ⟨p0, p1, p2, p3, p4, p5⟩ := hcl
        exact ⟨p0, p1, p2, p3, by rw [p4, ow _ (fun c e => (hsup c e).2)], p5⟩
      · show (if s = c then some C else gs_cls K s).isSome = true
        rw [if_neg (by have := (hsup s hs).1; omega)]
        exact (hsup s hs).2
    · rw [if_neg e] at z
      obtain ⟨q1, q2, q3⟩ := (R.2 c hc).2 C' z
      refine ⟨by rw [hf c e, q1]; simp [e], ?_, fun s hs => ⟨(q3 s hs).1, ?_⟩⟩
      · simp only [e, if_false]
        obtain ⟨p0, p1, p2, p3, p4, p5⟩ := q2.tr g
        exact ⟨p0, p1, p2, p3, by rw [p4, ow _ (fun c e => (q3 c e).2)], p5⟩
      · show (if s = n then some C else gs_cls K s).isSome = true
        rw [if_neg (fun z => by have := (q3 s hs).2; rw [z, hno] at this; cases this)]
        exact (q3 s hs).2
end Z6
/-! THE CLASS, 24: define, constant. -/
section Z7
variable {E : Nat → Value} {d x b : Nat} {h h' : gm_H} {ca ca' : Nat → Nat} {K K' : gs_K} {F G : Nat → Prop} {s : gs_S} {lf : Int32}
def gx_defQ (E : Nat → Value) (h : gm_H) (x : Nat) (ca : Nat → Nat) (K : gs_K) (s : gs_S) (lf n k u : Int32) (id : Int64) : gm_R → gm_H → Prop := fun r h' =>
  if gs_defok K n k u = true then r = .inl (some (.int 0)) ∧ gx_X E h' x (fun c => if c = n.toNatClampNeg then h.1 else ca c) (gs_def1 K n.toNatClampNeg (k, gs_defsup u, id, [], false, 0)) s lf ∧ h'.1 = h.1 + 3 ∧ h'.2.1 = h.2.1 + 17
  else r = .inl (some (.int (-1))) ∧ h' = h
theorem gs_ext_if {k a : Int32} : (if 2 < a then (0 : Int32) else if k ≤ 2 then (if k = 0 then (if a = 0 then 1 else 0) else 1) else 0) = if gs_ext k a = true then 1 else 0 := by
  unfold gs_ext
  by_cases h1 : 2 < a
  · simp [h1]
  · by_cases h2 : k ≤ 2
    · by_cases h3 : k = 0
      · by_cases h4 : a = 0 <;> simp [h1, h2, h3, h4]
      · simp [h1, h2, h3]
    · simp [h1, h2]
theorem x_define {n k u : Int32} {id : Int64} (hd : 1 ≤ d) (X : gx_X E h x ca K s lf) : gm_Ca E d 52 [.ref x, .int n, .int k, .int u, .long id] h (gx_defQ E h x ca K s lf n k u id) := by
  obtain ⟨R, f11⟩ := X
  have ht := R.top
  obtain ⟨A0, A4, -, -, -, A1, A1l, -⟩ := R.1
  show gm_W E d 52 0 [.ref x, .int n, .int k, .int u, .long id, gm_u, gm_u] [] h _
  have no : gs_defok K n k u = false → gx_defQ E h x ca K s lf n k u id (.inl (some (.int (-1)))) h := by
    intro e
    unfold gx_defQ
    rw [e]
    exact ⟨rfl, rfl⟩
  have n19 : gs_defok K n k u = false → ∀ w6 : Value, gm_W E d 52 19 [.ref x, .int n, .int k, .int u, .long id, gm_u, w6] [] h (gx_defQ E h x ca K s lf n k u id) := fun e w6 => by
    simp only [r52_0, r52_1, r52_4, r52_5, r52_7, r52_10, r52_11, r52_14, r52_15, r52_16, r52_19, r52_20, r52_21, r52_22, r52_23, r52_26, r52_27, r52_28, r52_31, r52_31n, r52_32, r52_35, r52_36, r52_37n, r52_37, r52_40, r52_41, r52_42, r52_43, r52_43n, r52_45, r52_46, r52_49, r52_49n, r52_50, r52_53, r52_54, r52_55, r52_55n, r52_57, r52_57n, r52_59n, r52_59, r52_62, r52_63, r52_63n, r52_65, r52_71, r52_74, r52_75, r52_76, r52_76n, r52_77, r52_80, r52_81, r52_84, r52_84i, r52_85, r52_86, r52_87, r52_87n, r52_89, r52_94, r52_94n, r52_95, r52_96, i32_10, reduceIte, gm_cmp1, gm_cmp3, gm_cmp4, gm_kd_sf, gm_ln_sf, gm_sf_1, gm_sf_2, gm_nw_1, gm_nw_2, gm_k_int, gm_k_ref, gm_k_null, gm_k_u, gm_k_long, and_true, true_and, true_or, or_true, or_false, false_or, and_self, or_self, if_true, if_false, List.map_nil, List.map_cons, List.sum_nil, List.sum_cons, Nat.zero_le, Option.toList_some, Option.toList_none, List.cons_append, List.nil_append, ne_eq, not_false_eq_true, not_true_eq_false, nI_1, nI_add, Value.category, Nat.reduceAdd, Nat.reduceMod, Nat.reduceLeDiff, Nat.reduceLT, Nat.reduceEqDiff, Nat.reducePow, Nat.le_refl, Nat.add_left_cancel_iff, Nat.add_eq_left, Nat.left_eq_add, Nat.add_zero]; exact no e
  have n40 : gs_defok K n k u = false → ∀ w6 : Value, gm_W E d 52 40 [.ref x, .int n, .int k, .int u, .long id, gm_u, w6] [] h (gx_defQ E h x ca K s lf n k u id) := fun e w6 => by
    simp only [r52_0, r52_1, r52_4, r52_5, r52_7, r52_10, r52_11, r52_14, r52_15, r52_16, r52_19, r52_20, r52_21, r52_22, r52_23, r52_26, r52_27, r52_28, r52_31, r52_31n, r52_32, r52_35, r52_36, r52_37n, r52_37, r52_40, r52_41, r52_42, r52_43, r52_43n, r52_45, r52_46, r52_49, r52_49n, r52_50, r52_53, r52_54, r52_55, r52_55n, r52_57, r52_57n, r52_59n, r52_59, r52_62, r52_63, r52_63n, r52_65, r52_71, r52_74, r52_75, r52_76, r52_76n, r52_77, r52_80, r52_81, r52_84, r52_84i, r52_85, r52_86, r52_87, r52_87n, r52_89, r52_94, r52_94n, r52_95, r52_96, i32_10, reduceIte, gm_cmp1, gm_cmp3, gm_cmp4, gm_kd_sf, gm_ln_sf, gm_sf_1, gm_sf_2, gm_nw_1, gm_nw_2, gm_k_int, gm_k_ref, gm_k_null, gm_k_u, gm_k_long, and_true, true_and, true_or, or_true, or_false, false_or, and_self, or_self, if_true, if_false, List.map_nil, List.map_cons, List.sum_nil, List.sum_cons, Nat.zero_le, Option.toList_some, Option.toList_none, List.cons_append, List.nil_append, ne_eq, not_false_eq_true, not_true_eq_false, nI_1, nI_add, Value.category, Nat.reduceAdd, Nat.reduceMod, Nat.reduceLeDiff, Nat.reduceLT, Nat.reduceEqDiff, Nat.reducePow, Nat.le_refl, Nat.add_left_cancel_iff, Nat.add_eq_left, Nat.left_eq_add, Nat.add_zero]; exact no e
  have n74 : gs_defok K n k u = false → ∀ w6 : Value, gm_W E d 52 74 [.ref x, .int n, .int k, .int u, .long id, gm_u, w6] [] h (gx_defQ E h x ca K s lf n k u id) := fun e w6 => by
    simp only [r52_0, r52_1, r52_4, r52_5, r52_7, r52_10, r52_11, r52_14, r52_15, r52_16, r52_19, r52_20, r52_21, r52_22, r52_23, r52_26, r52_27, r52_28, r52_31, r52_31n, r52_32, r52_35, r52_36, r52_37n, r52_37, r52_40, r52_41, r52_42, r52_43, r52_43n, r52_45, r52_46, r52_49, r52_49n, r52_50, r52_53, r52_54, r52_55, r52_55n, r52_57, r52_57n, r52_59n, r52_59, r52_62, r52_63, r52_63n, r52_65, r52_71, r52_74, r52_75, r52_76, r52_76n, r52_77, r52_80, r52_81, r52_84, r52_84i, r52_85, r52_86, r52_87, r52_87n, r52_89, r52_94, r52_94n, r52_95, r52_96, i32_10, reduceIte, gm_cmp1, gm_cmp3, gm_cmp4, gm_kd_sf, gm_ln_sf, gm_sf_1, gm_sf_2, gm_nw_1, gm_nw_2, gm_k_int, gm_k_ref, gm_k_null, gm_k_u, gm_k_long, and_true, true_and, true_or, or_true, or_false, false_or, and_self, or_self, if_true, if_false, List.map_nil, List.map_cons, List.sum_nil, List.sum_cons, Nat.zero_le, Option.toList_some, Option.toList_none, List.cons_append, List.nil_append, ne_eq, not_false_eq_true, not_true_eq_false, nI_1, nI_add, Value.category, Nat.reduceAdd, Nat.reduceMod, Nat.reduceLeDiff, Nat.reduceLT, Nat.reduceEqDiff, Nat.reducePow, Nat.le_refl, Nat.add_left_cancel_iff, Nat.add_eq_left, Nat.left_eq_add, Nat.add_zero]; exact no e
  by_cases h1 : n < 0
  · simp only [r52_0, r52_1, r52_4, r52_5, r52_7, r52_10, r52_11, r52_14, r52_15, r52_16, r52_20, r52_21, r52_22, r52_23, r52_26, r52_27, r52_28, r52_31, r52_31n, r52_32, r52_35, r52_36, r52_37n, r52_37, r52_40, r52_41, r52_42, r52_43, r52_43n, r52_45, r52_46, r52_49, r52_49n, r52_50, r52_53, r52_54, r52_55, r52_55n, r52_57, r52_57n, r52_59n, r52_59, r52_62, r52_63, r52_63n, r52_65, r52_71, r52_74, r52_75, r52_76, r52_76n, r52_77, r52_80, r52_81, r52_84, r52_84i, r52_85, r52_86, r52_87, r52_87n, r52_89, r52_94, r52_94n, r52_95, r52_96, i32_10, reduceIte, gm_cmp1, gm_cmp3, gm_cmp4, gm_kd_sf, gm_ln_sf, gm_sf_1, gm_sf_2, gm_nw_1, gm_nw_2, gm_k_int, gm_k_ref, gm_k_null, gm_k_u, gm_k_long, and_true, true_and, true_or, or_true, or_false, false_or, and_self, or_self, if_true, if_false, List.map_nil, List.map_cons, List.sum_nil, List.sum_cons, Nat.zero_le, Option.toList_some, Option.toList_none, List.cons_append, List.nil_append, ne_eq, not_false_eq_true, not_true_eq_false, nI_1, nI_add, Value.category, Nat.reduceAdd, Nat.reduceMod, Nat.reduceLeDiff, Nat.reduceLT, Nat.reduceEqDiff, Nat.reducePow, Nat.le_refl, Nat.add_left_cancel_iff, Nat.add_eq_left, Nat.left_eq_add, Nat.add_zero, h1]
    exact n19 (by unfold gs_defok; simp [Int32.not_le.mpr h1]) _
  by_cases h2 : 6 ≤ n
  · simp only [r52_0, r52_1, r52_4, r52_5, r52_7, r52_10, r52_11, r52_14, r52_15, r52_16, r52_20, r52_21, r52_22, r52_23, r52_26, r52_27, r52_28, r52_31, r52_31n, r52_32, r52_35, r52_36, r52_37n, r52_37, r52_40, r52_41, r52_42, r52_43, r52_43n, r52_45, r52_46, r52_49, r52_49n, r52_50, r52_53, r52_54, r52_55, r52_55n, r52_57, r52_57n, r52_59n, r52_59, r52_62, r52_63, r52_63n, r52_65, r52_71, r52_74, r52_75, r52_76, r52_76n, r52_77, r52_80, r52_81, r52_84, r52_84i, r52_85, r52_86, r52_87, r52_87n, r52_89, r52_94, r52_94n, r52_95, r52_96, i32_10, reduceIte, gm_cmp1, gm_cmp3, gm_cmp4, gm_kd_sf, gm_ln_sf, gm_sf_1, gm_sf_2, gm_nw_1, gm_nw_2, gm_k_int, gm_k_ref, gm_k_null, gm_k_u, gm_k_long, and_true, true_and, true_or, or_true, or_false, false_or, and_self, or_self, if_true, if_false, List.map_nil, List.map_cons, List.sum_nil, List.sum_cons, Nat.zero_le, Option.toList_some, Option.toList_none, List.cons_append, List.nil_append, ne_eq, not_false_eq_true, not_true_eq_false, nI_1, nI_add, Value.category, Nat.reduceAdd, Nat.reduceMod, Nat.reduceLeDiff, Nat.reduceLT, Nat.reduceEqDiff, Nat.reducePow, Nat.le_refl, Nat.add_left_cancel_iff, Nat.add_eq_left, Nat.left_eq_add, Nat.add_zero, h1, h2]
    exact n19 (by unfold gs_defok; simp [Int32.not_lt.mpr h2]) _
  by_cases h3 : k < 0
  · simp only [r52_0, r52_1, r52_4, r52_5, r52_7, r52_10, r52_11, r52_14, r52_15, r52_16, r52_20, r52_21, r52_22, r52_23, r52_26, r52_27, r52_28, r52_31, r52_31n, r52_32, r52_35, r52_36, r52_37n, r52_37, r52_40, r52_41, r52_42, r52_43, r52_43n, r52_45, r52_46, r52_49, r52_49n, r52_50, r52_53, r52_54, r52_55, r52_55n, r52_57, r52_57n, r52_59n, r52_59, r52_62, r52_63, r52_63n, r52_65, r52_71, r52_74, r52_75, r52_76, r52_76n, r52_77, r52_80, r52_81, r52_84, r52_84i, r52_85, r52_86, r52_87, r52_87n, r52_89, r52_94, r52_94n, r52_95, r52_96, i32_10, reduceIte, gm_cmp1, gm_cmp3, gm_cmp4, gm_kd_sf, gm_ln_sf, gm_sf_1, gm_sf_2, gm_nw_1, gm_nw_2, gm_k_int, gm_k_ref, gm_k_null, gm_k_u, gm_k_long, and_true, true_and, true_or, or_true, or_false, false_or, and_self, or_self, if_true, if_false, List.map_nil, List.map_cons, List.sum_nil, List.sum_cons, Nat.zero_le, Option.toList_some, Option.toList_none, List.cons_append, List.nil_append, ne_eq, not_false_eq_true, not_true_eq_false, nI_1, nI_add, Value.category, Nat.reduceAdd, Nat.reduceMod, Nat.reduceLeDiff, Nat.reduceLT, Nat.reduceEqDiff, Nat.reducePow, Nat.le_refl, Nat.add_left_cancel_iff, Nat.add_eq_left, Nat.left_eq_add, Nat.add_zero, h1, h2, h3]
    exact n19 (by unfold gs_defok; simp [Int32.not_le.mpr h3]) _
  by_cases h4 : ¬ k ≤ 4
  · simp only [r52_0, r52_1, r52_4, r52_5, r52_7, r52_10, r52_11, r52_14, r52_15, r52_16, r52_20, r52_21, r52_22, r52_23, r52_26, r52_27, r52_28, r52_31, r52_31n, r52_32, r52_35, r52_36, r52_37n, r52_37, r52_40, r52_41, r52_42, r52_43, r52_43n, r52_45, r52_46, r52_49, r52_49n, r52_50, r52_53, r52_54, r52_55, r52_55n, r52_57, r52_57n, r52_59n, r52_59, r52_62, r52_63, r52_63n, r52_65, r52_71, r52_74, r52_75, r52_76, r52_76n, r52_77, r52_80, r52_81, r52_84, r52_84i, r52_85, r52_86, r52_87, r52_87n, r52_89, r52_94, r52_94n, r52_95, r52_96, i32_10, reduceIte, gm_cmp1, gm_cmp3, gm_cmp4, gm_kd_sf, gm_ln_sf, gm_sf_1, gm_sf_2, gm_nw_1, gm_nw_2, gm_k_int, gm_k_ref, gm_k_null, gm_k_u, gm_k_long, and_true, true_and, true_or, or_true, or_false, false_or, and_self, or_self, if_true, if_false, List.map_nil, List.map_cons, List.sum_nil, List.sum_cons, Nat.zero_le, Option.toList_some, Option.toList_none, List.cons_append, List.nil_append, ne_eq, not_false_eq_true, not_true_eq_false, nI_1, nI_add, Value.category, Nat.reduceAdd, Nat.reduceMod, Nat.reduceLeDiff, Nat.reduceLT, Nat.reduceEqDiff, Nat.reducePow, Nat.le_refl, Nat.add_left_cancel_iff, Nat.add_eq_left, Nat.left_eq_add, Nat.add_zero, h1, h2, h3, h4]
    exact n19 (by unfold gs_defok; simp [h4]) _
  have h4 : k ≤ 4 := Decidable.of_not_not h4
  by_cases h5 : u < -1
  · simp only [r52_0, r52_1, r52_4, r52_5, r52_7, r52_10, r52_11, r52_14, r52_15, r52_16, r52_19, r52_20, r52_21, r52_22, r52_23, r52_26, r52_27, r52_28, r52_31, r52_31n, r52_32, r52_35, r52_36, r52_37n, r52_37, r52_41, r52_42, r52_43, r52_43n, r52_45, r52_46, r52_49, r52_49n, r52_50, r52_53, r52_54, r52_55, r52_55n, r52_57, r52_57n, r52_59n, r52_59, r52_62, r52_63, r52_63n, r52_65, r52_71, r52_74, r52_75, r52_76, r52_76n, r52_77, r52_80, r52_81, r52_84, r52_84i, r52_85, r52_86, r52_87, r52_87n, r52_89, r52_94, r52_94n, r52_95, r52_96, i32_10, reduceIte, gm_cmp1, gm_cmp3, gm_cmp4, gm_kd_sf, gm_ln_sf, gm_sf_1, gm_sf_2, gm_nw_1, gm_nw_2, gm_k_int, gm_k_ref, gm_k_null, gm_k_u, gm_k_long, and_true, true_and, true_or, or_true, or_false, false_or, and_self, or_self, if_true, if_false, List.map_nil, List.map_cons, List.sum_nil, List.sum_cons, Nat.zero_le, Option.toList_some, Option.toList_none, List.cons_append, List.nil_append, ne_eq, not_false_eq_true, not_true_eq_false, nI_1, nI_add, Value.category, Nat.reduceAdd, Nat.reduceMod, Nat.reduceLeDiff, Nat.reduceLT, Nat.reduceEqDiff, Nat.reducePow, Nat.le_refl, Nat.add_left_cancel_iff, Nat.add_eq_left, Nat.left_eq_add, Nat.add_zero, h1, h2, h3, h4, h5]
    exact n40 (by unfold gs_defok; simp [Int32.not_le.mpr h5]) _
  by_cases h6 : n ≤ u
  · simp only [r52_0, r52_1, r52_4, r52_5, r52_7, r52_10, r52_11, r52_14, r52_15, r52_16, r52_19, r52_20, r52_21, r52_22, r52_23, r52_26, r52_27, r52_28, r52_31, r52_31n, r52_32, r52_35, r52_36, r52_37n, r52_37, r52_41, r52_42, r52_43, r52_43n, r52_45, r52_46, r52_49, r52_49n, r52_50, r52_53, r52_54, r52_55, r52_55n, r52_57, r52_57n, r52_59n, r52_59, r52_62, r52_63, r52_63n, r52_65, r52_71, r52_74, r52_75, r52_76, r52_76n, r52_77, r52_80, r52_81, r52_84, r52_84i, r52_85, r52_86, r52_87, r52_87n, r52_89, r52_94, r52_94n, r52_95, r52_96, i32_10, reduceIte, gm_cmp1, gm_cmp3, gm_cmp4, gm_kd_sf, gm_ln_sf, gm_sf_1, gm_sf_2, gm_nw_1, gm_nw_2, gm_k_int, gm_k_ref, gm_k_null, gm_k_u, gm_k_long, and_true, true_and, true_or, or_true, or_false, false_or, and_self, or_self, if_true, if_false, List.map_nil, List.map_cons, List.sum_nil, List.sum_cons, Nat.zero_le, Option.toList_some, Option.toList_none, List.cons_append, List.nil_append, ne_eq, not_false_eq_true, not_true_eq_false, nI_1, nI_add, Value.category, Nat.reduceAdd, Nat.reduceMod, Nat.reduceLeDiff, Nat.reduceLT, Nat.reduceEqDiff, Nat.reducePow, Nat.le_refl, Nat.add_left_cancel_iff, Nat.add_eq_left, Nat.left_eq_add, Nat.add_zero, h1, h2, h3, h4, h5, h6]
    exact n40 (by unfold gs_defok; simp [Int32.not_lt.mpr h6]) _
  obtain ⟨m, hm, rfl⟩ := nI_of h1
  have hm6 : m < 6 := (nI_ltI (b := 6) hm (by decide)).mp (Int32.not_le.mp h2)
  have p1 : 0 ≤ nI m := nI_pos' hm
  have p2 : nI m < 6 := Int32.not_le.mp h2
  have p3 : 0 ≤ k := Int32.not_lt.mp h3
  have p5 : -1 ≤ u := Int32.not_lt.mp h5
  have p6 : u < nI m := Int32.not_le.mp h6
  cases hC : gs_cls K m with
  | some C =>
    have f := ((R.2.2.1.2 m hm6).2 C hC).1
    simp only [r52_0, r52_1, r52_4, r52_5, r52_7, r52_10, r52_11, r52_14, r52_15, r52_16, r52_19, r52_20, r52_21, r52_22, r52_23, r52_26, r52_27, r52_28, r52_31, r52_31n, r52_32, r52_35, r52_36, r52_37n, r52_37, r52_41, r52_42, r52_43, r52_43n, r52_45, r52_46, r52_49, r52_49n, r52_50, r52_53, r52_54, r52_55, r52_55n, r52_57, r52_57n, r52_59n, r52_59, r52_62, r52_63, r52_63n, r52_65, r52_71, r52_74, r52_75, r52_76, r52_76n, r52_77, r52_80, r52_81, r52_84, r52_84i, r52_85, r52_86, r52_87, r52_87n, r52_89, r52_94, r52_94n, r52_95, r52_96, i32_10, reduceIte, gm_cmp1, gm_cmp3, gm_cmp4, gm_kd_sf, gm_ln_sf, gm_sf_1, gm_sf_2, gm_nw_1, gm_nw_2, gm_k_int, gm_k_ref, gm_k_null, gm_k_u, gm_k_long, and_true, true_and, true_or, or_true, or_false, false_or, and_self, or_self, if_true, if_false, List.map_nil, List.map_cons, List.sum_nil, List.sum_cons, Nat.zero_le, Option.toList_some, Option.toList_none, List.cons_append, List.nil_append, ne_eq, not_false_eq_true, not_true_eq_false, nI_1, nI_add, Value.category, Nat.reduceAdd, Nat.reduceMod, Nat.reduceLeDiff, Nat.reduceLT, Nat.reduceEqDiff, Nat.reducePow, Nat.le_refl, Nat.add_left_cancel_iff, Nat.add_eq_left, Nat.left_eq_add, Nat.add_zero, h1, h2, h3, h4, h5, h6, A0, A4, A1, A1l, hm6, f]
    exact n40 (by unfold gs_defok; simp [nI_clamp hm, hC]) _
  | none =>
    have f := (R.2.2.1.2 m hm6).1 hC
    -- the class is made
    have mk : gs_defok K (nI m) k u = true → (∀ c, gs_defsup u = some c → c < m ∧ (gs_cls K c).isSome = true) → gm_W E d 52 76 [.ref x, .int (nI m), .int k, .int u, .long id, gm_u, gx_ow ca (gs_defsup u)] [] h (gx_defQ E h x ca K s lf (nI m) k u id) := by
      intro ok hsup
      obtain ⟨h3, h3e⟩ : ∃ h3, h3 = gx_mc (gx_c1 h) h.1 (nI m) k (gx_ow ca (gs_defsup u)) id := ⟨_, rfl⟩
      have r3 : ∀ b, b < h.1 → gm_rd h3 b = gm_rd h b := by rw [h3e]; exact gx_mc_rd
      have c3 : h3.1 = h.1 + 3 ∧ h3.2.1 = h.2.1 + 17 := by rw [h3e]; exact gx_mc_1
      have cl3 : gx_cl h3 x ca (fun _ => False) m (k, gs_defsup u, id, [], false, 0) h.1 := by rw [h3e]; exact gx_mc_cl ht
      have R3 : gx_R E h3 x ca K (fun _ => False) s := R.far (by omega) r3
      obtain ⟨B0, B4, -, -, -, B1, B1l, -⟩ := R3.1
      have k3 := cl3.2.1
      have k3' : gm_kd h3 h.1 < 6 := by rw [k3]; decide
      have fin : gm_W E d 52 94 [.ref x, .int (nI m), .int k, .int u, .long id, gm_u, gx_ow ca (gs_defsup u)] [.ref h.1, .int (nI m), .ref (x + 1)] h3 (gx_defQ E h x ca K s lf (nI m) k u id) := by
        have l36 : (3 : Nat) < 6 := by decide
        simp only [r52_0, r52_1, r52_4, r52_5, r52_7, r52_10, r52_11, r52_14, r52_15, r52_16, r52_19, r52_20, r52_21, r52_22, r52_23, r52_26, r52_27, r52_28, r52_31, r52_31n, r52_32, r52_35, r52_36, r52_37n, r52_37, r52_40, r52_41, r52_42, r52_43, r52_43n, r52_45, r52_46, r52_49, r52_49n, r52_50, r52_53, r52_54, r52_55, r52_55n, r52_57, r52_57n, r52_59n, r52_59, r52_62, r52_63, r52_63n, r52_65, r52_71, r52_74, r52_75, r52_76, r52_76n, r52_77, r52_80, r52_81, r52_84, r52_84i, r52_85, r52_86, r52_87, r52_87n, r52_89, r52_94, r52_94n, r52_95, r52_96, i32_10, reduceIte, gm_cmp1, gm_cmp3, gm_cmp4, gm_kd_sf, gm_ln_sf, gm_sf_1, gm_sf_2, gm_nw_1, gm_nw_2, gm_k_int, gm_k_ref, gm_k_null, gm_k_u, gm_k_long, and_true, true_and, true_or, or_true, or_false, false_or, and_self, or_self, if_true, if_false, List.map_nil, List.map_cons, List.sum_nil, List.sum_cons, Nat.zero_le, Option.toList_some, Option.toList_none, List.cons_append, List.nil_append, ne_eq, not_false_eq_true, not_true_eq_false, nI_1, nI_add, Value.category, Nat.reduceAdd, Nat.reduceMod, Nat.reduceLeDiff, Nat.reduceLT, Nat.reduceEqDiff, Nat.reducePow, Nat.le_refl, Nat.add_left_cancel_iff, Nat.add_eq_left, Nat.left_eq_add, Nat.add_zero, k3, l36, B1, B1l, hm6]
        unfold gx_defQ
        rw [if_pos ok, nI_clamp hm]
        obtain ⟨h4, h4e⟩ : ∃ h4, h4 = gm_sf h3 (x + 1) m (.ref h.1) := ⟨_, rfl⟩
        rw [← h4e]
        have c4 : h4.1 = h3.1 ∧ h4.2.1 = h3.2.1 := by rw [h4e]; simp only [gm_sf_1, gm_sf_2, and_self]
        have hf4 : ∀ b j, b ≠ x + 1 → gm_fv h4 b j = gm_fv h3 b j := fun b j hb => by rw [h4e]; exact gm_fv_sfa hb
        have g4 : gx_ag h3 h4 x (fun _ => False) := by rw [h4e]; exact gx_ag.sf (gx_ok.no (by omega))
        have g : gx_ag h h4 x (fun _ => False) := (show gx_ag h h3 x (fun _ => False) from ⟨by omega, fun b o => r3 b o.2.1⟩).trans g4
        have r4 : ∀ b, b < h.1 → b ≠ x + 1 → gm_rd h4 b = gm_rd h b := fun b hb hb1 => by rw [h4e, gm_rd_sfn hb1]; exact r3 b hb
        have C4 := R.2.2.1.def1 (h' := h4) (C := (k, gs_defsup u, id, [], false, 0)) hm6 hC r4 ht (by omega) (fun c hc => by rw [h4e, gm_fv_sfj hc]; exact gv_fv (r3 _ (by omega))) (by rw [h4e]; exact gm_fv_sf (by omega)) (cl3.tr g4) hsup
        refine ⟨rfl, ⟨?_, by rw [hf4 _ _ (by omega), gv_fv (r3 x (by omega))]; exact f11⟩, by omega, by omega⟩
        refine R.chg (h' := h4) (K' := gs_def1 K m (k, gs_defsup u, id, [], false, 0)) g ?_ ?_ C4 ?_ (fun i _ => by rw [hf4 _ _ (by omega)]; exact gv_fv (r3 _ (by omega))) (fun i _ => ⟨by rw [hf4 _ _ (by omega)]; exact gv_fv (r3 _ (by omega)), by rw [hf4 _ _ (by omega)]; exact gv_fv (r3 _ (by omega))⟩) (Nat.le_refl _) (fun c z => ?_) (fun c z => ?_)
        · have z := R3.1
          unfold gx_A at z ⊢
          simp only [hf4 x _ (by omega), hf4 (x + 4) _ (by omega), c4.1]
          rw [h4e]
          simp only [gm_kd_sf, gm_ln_sf]
          exact z
        · have z := R3.2.1
          unfold gx_B at z ⊢
          simp only [hf4 x _ (by omega), hf4 (x + 2) _ (by omega)]
          exact z
        · have z := R3.2.2.2.1
          unfold gx_M at z ⊢
          simp only [hf4 x _ (by omega), hf4 (x + 4) _ (by omega)]
          exact z
        · have hne : c ≠ m := fun e => by rw [e, hC] at z; cases z
          refine ⟨?_, by simp [hne]⟩
          show (if c = m then _ else gs_cls K c).isSome = true
          rw [if_neg hne]; exact z
        · have z : (if c = m then some (k, gs_defsup u, id, [], false, 0) else gs_cls K c).isSome = true := z
          by_cases e : c = m
          · right
            show h.1 ≤ (if c = m then h.1 else ca c)
            rw [if_pos e]
            exact Nat.le_refl _
          · left
            rw [if_neg e] at z
            exact ⟨z, by simp [e]⟩
      cases hu : gs_defsup u with
      | none =>
        rw [hu] at fin h3e
        simp only [r52_0, r52_1, r52_4, r52_5, r52_7, r52_10, r52_11, r52_14, r52_15, r52_16, r52_19, r52_20, r52_21, r52_22, r52_23, r52_26, r52_27, r52_28, r52_31, r52_31n, r52_32, r52_35, r52_36, r52_37n, r52_37, r52_40, r52_41, r52_42, r52_43, r52_43n, r52_45, r52_46, r52_49, r52_49n, r52_50, r52_53, r52_54, r52_55, r52_55n, r52_57, r52_57n, r52_59n, r52_59, r52_62, r52_63, r52_63n, r52_65, r52_71, r52_74, r52_75, r52_76, r52_76n, r52_77, r52_80, r52_81, r52_84, r52_84i, r52_85, r52_86, r52_87, r52_87n, r52_89, r52_95, r52_96, i32_10, reduceIte, gm_cmp1, gm_cmp3, gm_cmp4, gm_kd_sf, gm_ln_sf, gm_sf_1, gm_sf_2, gm_nw_1, gm_nw_2, gm_k_int, gm_k_ref, gm_k_null, gm_k_u, gm_k_long, and_true, true_and, true_or, or_true, or_false, false_or, and_self, or_self, if_true, if_false, List.map_nil, List.map_cons, List.sum_nil, List.sum_cons, Nat.zero_le, Option.toList_some, Option.toList_none, List.cons_append, List.nil_append, ne_eq, not_false_eq_true, not_true_eq_false, nI_1, nI_add, Value.category, Nat.reduceAdd, Nat.reduceMod, Nat.reduceLeDiff, Nat.reduceLT, Nat.reduceEqDiff, Nat.reducePow, Nat.le_refl, Nat.add_left_cancel_iff, Nat.add_eq_left, Nat.left_eq_add, Nat.add_zero, A0, A4, gx_ow] at fin ⊢
        refine c52_91 (by simp [Value.category]) (by simp [gm_en1]) hd (x_LocalClass (h := h) (ca := ca) (u := none)) (gx_kn ?_) gx_kx
        rw [← h3e]
        exact fin
      | some c =>
        rw [hu] at fin h3e
        simp only [r52_0, r52_1, r52_4, r52_5, r52_7, r52_10, r52_11, r52_14, r52_15, r52_16, r52_19, r52_20, r52_21, r52_22, r52_23, r52_26, r52_27, r52_28, r52_31, r52_31n, r52_32, r52_35, r52_36, r52_37n, r52_37, r52_40, r52_41, r52_42, r52_43, r52_43n, r52_45, r52_46, r52_49, r52_49n, r52_50, r52_53, r52_54, r52_55, r52_55n, r52_57, r52_57n, r52_59n, r52_59, r52_62, r52_63, r52_63n, r52_65, r52_71, r52_74, r52_75, r52_76, r52_76n, r52_77, r52_80, r52_81, r52_84, r52_84i, r52_85, r52_86, r52_87, r52_87n, r52_89, r52_95, r52_96, i32_10, reduceIte, gm_cmp1, gm_cmp3, gm_cmp4, gm_kd_sf, gm_ln_sf, gm_sf_1, gm_sf_2, gm_nw_1, gm_nw_2, gm_k_int, gm_k_ref, gm_k_null, gm_k_u, gm_k_long, and_true, true_and, true_or, or_true, or_false, false_or, and_self, or_self, if_true, if_false, List.map_nil, List.map_cons, List.sum_nil, List.sum_cons, Nat.zero_le, Option.toList_some, Option.toList_none, List.cons_append, List.nil_append, ne_eq, not_false_eq_true, not_true_eq_false, nI_1, nI_add, Value.category, Nat.reduceAdd, Nat.reduceMod, Nat.reduceLeDiff, Nat.reduceLT, Nat.reduceEqDiff, Nat.reducePow, Nat.le_refl, Nat.add_left_cancel_iff, Nat.add_eq_left, Nat.left_eq_add, Nat.add_zero, A0, A4, gx_ow] at fin ⊢
        refine c52_91 (by simp [Value.category]) (by simp [gm_en1]) hd (x_LocalClass (h := h) (ca := ca) (u := some c)) (gx_kn ?_) gx_kx
        rw [← h3e]
        exact fin
    by_cases hu : u < 0
    · have eu : gs_defsup u = none := by unfold gs_defsup; rw [if_pos hu]
      have mk' := mk (by unfold gs_defok; simp [p1, p2, p3, h4, p5, p6, nI_clamp hm, hC, hu]) (fun c e => by rw [eu] at e; cases e)
      rw [eu] at mk'
      simp only [r52_0, r52_1, r52_4, r52_5, r52_7, r52_10, r52_11, r52_14, r52_15, r52_16, r52_19, r52_20, r52_21, r52_22, r52_23, r52_26, r52_27, r52_28, r52_31, r52_31n, r52_32, r52_35, r52_36, r52_37n, r52_37, r52_40, r52_41, r52_42, r52_43, r52_43n, r52_45, r52_46, r52_49, r52_49n, r52_50, r52_53, r52_54, r52_55, r52_55n, r52_57, r52_57n, r52_59n, r52_59, r52_62, r52_63, r52_63n, r52_65, r52_71, r52_74, r52_75, r52_77, r52_80, r52_81, r52_84, r52_84i, r52_85, r52_86, r52_87, r52_87n, r52_89, r52_94, r52_94n, r52_95, r52_96, i32_10, reduceIte, gm_cmp1, gm_cmp3, gm_cmp4, gm_kd_sf, gm_ln_sf, gm_sf_1, gm_sf_2, gm_nw_1, gm_nw_2, gm_k_int, gm_k_ref, gm_k_null, gm_k_u, gm_k_long, and_true, true_and, true_or, or_true, or_false, false_or, and_self, or_self, if_true, if_false, List.map_nil, List.map_cons, List.sum_nil, List.sum_cons, Nat.zero_le, Option.toList_some, Option.toList_none, List.cons_append, List.nil_append, ne_eq, not_false_eq_true, not_true_eq_false, nI_1, nI_add, Value.category, Nat.reduceAdd, Nat.reduceMod, Nat.reduceLeDiff, Nat.reduceLT, Nat.reduceEqDiff, Nat.reducePow, Nat.le_refl, Nat.add_left_cancel_iff, Nat.add_eq_left, Nat.left_eq_add, Nat.add_zero, h1, h2, h3, h4, h5, h6, A0, A4, A1, A1l, hm6, f, hu, gx_ow] at mk' ⊢
      exact mk'
    · obtain ⟨q, hq, rfl⟩ := nI_of hu
      have eu : gs_defsup (nI q) = some q := by unfold gs_defsup; rw [if_neg hu, nI_clamp hq]
      have hqm : q < m := (nI_ltI hq hm).mp p6
      have hq6 : q < 6 := by omega
      cases hQ : gs_cls K q with
      | none =>
        have fq := (R.2.2.1.2 q hq6).1 hQ
        simp only [r52_0, r52_1, r52_4, r52_5, r52_7, r52_10, r52_11, r52_14, r52_15, r52_16, r52_19, r52_20, r52_21, r52_22, r52_23, r52_26, r52_27, r52_28, r52_31, r52_31n, r52_32, r52_35, r52_36, r52_37n, r52_37, r52_40, r52_41, r52_42, r52_43, r52_43n, r52_45, r52_46, r52_49, r52_49n, r52_50, r52_53, r52_54, r52_55, r52_55n, r52_57, r52_57n, r52_59n, r52_59, r52_62, r52_63, r52_63n, r52_65, r52_71, r52_75, r52_77, r52_80, r52_81, r52_84, r52_84i, r52_85, r52_86, r52_87, r52_87n, r52_89, r52_94, r52_94n, r52_95, r52_96, i32_10, reduceIte, gm_cmp1, gm_cmp3, gm_cmp4, gm_kd_sf, gm_ln_sf, gm_sf_1, gm_sf_2, gm_nw_1, gm_nw_2, gm_k_int, gm_k_ref, gm_k_null, gm_k_u, gm_k_long, and_true, true_and, true_or, or_true, or_false, false_or, and_self, or_self, if_true, if_false, List.map_nil, List.map_cons, List.sum_nil, List.sum_cons, Nat.zero_le, Option.toList_some, Option.toList_none, List.cons_append, List.nil_append, ne_eq, not_false_eq_true, not_true_eq_false, nI_1, nI_add, Value.category, Nat.reduceAdd, Nat.reduceMod, Nat.reduceLeDiff, Nat.reduceLT, Nat.reduceEqDiff, Nat.reducePow, Nat.le_refl, Nat.add_left_cancel_iff, Nat.add_eq_left, Nat.left_eq_add, Nat.add_zero, h1, h2, h3, h4, h5, h6, A0, A4, A1, A1l, hm6, f, hu, hq6, fq]
        exact n74 (by unfold gs_defok; simp [nI_clamp hq, hQ, hu]) _
      | some Q =>
        obtain ⟨-, fq, -, kq, -, fk, -⟩ := R.2.2.1.at hQ
        simp only [r52_0, r52_1, r52_4, r52_5, r52_7, r52_10, r52_11, r52_14, r52_15, r52_16, r52_19, r52_20, r52_21, r52_22, r52_23, r52_26, r52_27, r52_28, r52_31, r52_31n, r52_32, r52_35, r52_36, r52_37n, r52_37, r52_40, r52_41, r52_42, r52_43, r52_43n, r52_45, r52_46, r52_49, r52_49n, r52_50, r52_53, r52_54, r52_55, r52_55n, r52_57, r52_57n, r52_59n, r52_59, r52_62, r52_63, r52_63n, r52_65, r52_71, r52_75, r52_77, r52_80, r52_81, r52_84, r52_84i, r52_85, r52_86, r52_87, r52_87n, r52_89, r52_94, r52_94n, r52_95, r52_96, i32_10, reduceIte, gm_cmp1, gm_cmp3, gm_cmp4, gm_kd_sf, gm_ln_sf, gm_sf_1, gm_sf_2, gm_nw_1, gm_nw_2, gm_k_int, gm_k_ref, gm_k_null, gm_k_u, gm_k_long, and_true, true_and, true_or, or_true, or_false, false_or, and_self, or_self, if_true, if_false, List.map_nil, List.map_cons, List.sum_nil, List.sum_cons, Nat.zero_le, Option.toList_some, Option.toList_none, List.cons_append, List.nil_append, ne_eq, not_false_eq_true, not_true_eq_false, nI_1, nI_add, Value.category, Nat.reduceAdd, Nat.reduceMod, Nat.reduceLeDiff, Nat.reduceLT, Nat.reduceEqDiff, Nat.reducePow, Nat.le_refl, Nat.add_left_cancel_iff, Nat.add_eq_left, Nat.left_eq_add, Nat.add_zero, h1, h2, h3, h4, h5, h6, A0, A4, A1, A1l, hm6, f, hu, hq6, fq, kq, fk]
        refine c52_68 (by simp) hd (x_mayExtend k (gs_kind Q)) (gx_kn ?_) gx_kx
        rw [gs_ext_if]
        by_cases he : gs_ext k (gs_kind Q) = true
        · have mk' := mk (by unfold gs_defok; simp [p1, p2, p3, h4, p5, p6, nI_clamp hm, hC, nI_clamp hq, hQ, he]) (fun c e => by rw [eu] at e; cases e; exact ⟨hqm, by rw [hQ]; rfl⟩)
          rw [eu] at mk'
          simp only [r52_0, r52_1, r52_4, r52_5, r52_7, r52_10, r52_11, r52_14, r52_15, r52_16, r52_19, r52_20, r52_21, r52_22, r52_23, r52_26, r52_27, r52_28, r52_31, r52_31n, r52_32, r52_35, r52_36, r52_37n, r52_37, r52_40, r52_41, r52_42, r52_43, r52_43n, r52_45, r52_46, r52_49, r52_49n, r52_50, r52_53, r52_54, r52_55, r52_55n, r52_57, r52_57n, r52_59n, r52_59, r52_62, r52_63, r52_63n, r52_65, r52_71, r52_75, r52_77, r52_80, r52_81, r52_84, r52_84i, r52_85, r52_86, r52_87, r52_87n, r52_89, r52_94, r52_94n, r52_95, r52_96, i32_10, reduceIte, gm_cmp1, gm_cmp3, gm_cmp4, gm_kd_sf, gm_ln_sf, gm_sf_1, gm_sf_2, gm_nw_1, gm_nw_2, gm_k_int, gm_k_ref, gm_k_null, gm_k_u, gm_k_long, and_true, true_and, true_or, or_true, or_false, false_or, and_self, or_self, if_true, if_false, List.map_nil, List.map_cons, List.sum_nil, List.sum_cons, Nat.zero_le, Option.toList_some, Option.toList_none, List.cons_append, List.nil_append, ne_eq, not_false_eq_true, not_true_eq_false, nI_1, nI_add, Value.category, Nat.reduceAdd, Nat.reduceMod, Nat.reduceLeDiff, Nat.reduceLT, Nat.reduceEqDiff, Nat.reducePow, Nat.le_refl, Nat.add_left_cancel_iff, Nat.add_eq_left, Nat.left_eq_add, Nat.add_zero, he, gx_ow] at mk' ⊢
          exact mk'
        · simp only [r52_0, r52_1, r52_4, r52_5, r52_7, r52_10, r52_11, r52_14, r52_15, r52_16, r52_19, r52_20, r52_21, r52_22, r52_23, r52_26, r52_27, r52_28, r52_31, r52_31n, r52_32, r52_35, r52_36, r52_37n, r52_37, r52_40, r52_41, r52_42, r52_43, r52_43n, r52_45, r52_46, r52_49, r52_49n, r52_50, r52_53, r52_54, r52_55, r52_55n, r52_57, r52_57n, r52_59n, r52_59, r52_62, r52_63, r52_63n, r52_65, r52_71, r52_75, r52_77, r52_80, r52_81, r52_84, r52_84i, r52_85, r52_86, r52_87, r52_87n, r52_89, r52_94, r52_94n, r52_95, r52_96, i32_10, reduceIte, gm_cmp1, gm_cmp3, gm_cmp4, gm_kd_sf, gm_ln_sf, gm_sf_1, gm_sf_2, gm_nw_1, gm_nw_2, gm_k_int, gm_k_ref, gm_k_null, gm_k_u, gm_k_long, and_true, true_and, true_or, or_true, or_false, false_or, and_self, or_self, if_true, if_false, List.map_nil, List.map_cons, List.sum_nil, List.sum_cons, Nat.zero_le, Option.toList_some, Option.toList_none, List.cons_append, List.nil_append, ne_eq, not_false_eq_true, not_true_eq_false, nI_1, nI_add, Value.category, Nat.reduceAdd, Nat.reduceMod, Nat.reduceLeDiff, Nat.reduceLT, Nat.reduceEqDiff, Nat.reducePow, Nat.le_refl, Nat.add_left_cancel_iff, Nat.add_eq_left, Nat.left_eq_add, Nat.add_zero, he]
          exact n74 (by unfold gs_defok; simp [nI_clamp hq, hQ, hu, he]) _
end Z7
/-! THE CLASS, 25: constant, field. -/
section Z8
variable {E : Nat → Value} {d x b : Nat} {h h' : gm_H} {ca ca' : Nat → Nat} {K K' : gs_K} {F G : Nat → Prop} {s : gs_S} {lf : Int32}
/-- a class changed in place -/
theorem gx_R.cls {c : Nat} {C C' : gs_C} (R : gx_R E h x ca K F s) (hC : gs_cls K c = some C) (h1 : h'.1 = h.1) (hr : ∀ a, a ≠ ca c → a ≠ ca c + 1 → a ≠ ca c + 2 → gm_rd h' a = gm_rd h a) (hcl : gx_cl h' x ca F c C' (ca c)) (hs : gs_sup C' = gs_sup C) : gx_R E h' x ca (gs_def1 K c C') F s := by
  obtain ⟨hc6, fc, ⟨⟨o1, o2, o3⟩, k0, -, -, -, -, -, -, -, -, -, -, k1, -, k2, -, -⟩⟩ := R.2.2.1.at hC
  obtain ⟨q1, q2, q3, q4, ⟨ta, q5⟩, q6, q7⟩ := R
  have w1 := o1.1
  have w2 := o2.1
  have w3 := o3.1
  have ro : ∀ i, i ≤ 6 → gm_rd h' (x + i) = gm_rd h (x + i) := fun i hi => hr _ (by omega) (by omega) (by omega)
  have r0 := ro 0 (by decide)
  rw [Nat.add_zero] at r0
  have ne : ∀ {a q : Nat}, gm_kd h a = q → q ≠ 3 → q ≠ 100 → gm_rd h' a = gm_rd h a := fun {a q} e n1 n2 => hr a (fun z => by subst z; omega) (fun z => by subst z; omega) (fun z => by subst z; omega)
  have ok : ∀ {a}, gx_ok h x F a → gx_ok h' x F a := fun o => o.tr (by omega)
  have cs : ∀ c', (gs_cls K c').isSome = true ↔ (gs_cls (gs_def1 K c C') c').isSome = true := by
    intro c'
    show _ ↔ (if c' = c then some C' else gs_cls K c').isSome = true
    by_cases e : c' = c
    · rw [if_pos e, e, hC]; simp
    · rw [if_neg e]
  have ds : ∀ {L : List gs_L} {v : Value}, gx_ds h x ca K F L v → gx_ds h' x ca (gs_def1 K c C') F L v := by
    intro L
    induction L with
    | nil => intro v q; exact q
    | cons l L ih =>
      intro v q
      obtain ⟨a, u, w, rfl, p1, p2, p3, g1, g2, g3, g4, g5, g6, g7, g8, g9, g10, g11, g12, g13, g14, g15, g16, g17, g18, g19⟩ := q
      have ea := ne g1 (by decide) (by decide)
      have dj := g15.2 c (by rw [hC]; rfl)
      have eu := hr u dj.1 dj.2.1 dj.2.2.1
      have ew := hr w dj.2.2.2.1 dj.2.2.2.2.1 dj.2.2.2.2.2
      refine ⟨a, u, w, rfl, ok p1, ok p2, ok p3, ?_⟩
      simp only [gv_kd ea, gv_kd eu, gv_kd ew, gv_ln eu, gv_ln ew, gv_fv ea, gv_fv eu, gv_fv ew]
      exact ⟨g1, g2, g3, g4, g5, g6, g7, g8, g9, g10, g11, g12, g13, g14, ⟨g15.1, fun c' z => g15.2 c' ((cs c').mpr z)⟩, g16, fun c' z => ⟨(g17 c' z).1, (cs c').mp (g17 c' z).2⟩, g18, ih g19⟩
  have gG : gx_G E h' x F := by
    obtain ⟨⟨z, e0, o, j1, j2, j3⟩, e5, q⟩ := q3.1.1
    refine ⟨⟨z, e0, ok o, ?_⟩, e5, fun i hi => ?_⟩
    · have ea := ne j1 (by decide) (by decide)
      simp only [gv_kd ea, gv_ln ea, gv_fv ea]
      exact ⟨j1, j2, j3⟩
    · obtain ⟨a, v, e, p1, p2, i1, i2, i3, i4, i5, i6⟩ := q i hi
      have ea := ne i1 (by decide) (by decide)
      have ev := ne i5 (by decide) (by decide)
      refine ⟨a, v, e, ok p1, ok p2, ?_⟩
      simp only [gv_kd ea, gv_ln ea, gv_fv ea, gv_kd ev, gv_ln ev, gv_fv ev]
      exact ⟨i1, i2, i3, i4, i5, i6⟩
  refine ⟨?_, ?_, ⟨⟨gG, fun c' z => ?_⟩, fun c' z => ⟨fun z2 => ?_, fun C2 z2 => ?_⟩⟩, ?_, ⟨ta, q5.1, fun i o z => ?_⟩, fun i e z => ?_, fun i o c' z z2 => (cs c').mp (q7.1 i o c' z z2), q7.2⟩
  · unfold gx_A at q1 ⊢
    simp only [gv_kd r0, gv_fv r0, gv_kd (ro 1 (by decide)), gv_ln (ro 1 (by decide)), gv_kd (ro 2 (by decide)), gv_ln (ro 2 (by decide)), gv_kd (ro 3 (by decide)), gv_ln (ro 3 (by decide)), gv_kd (ro 4 (by decide)), gv_fv (ro 4 (by decide)), gv_kd (ro 5 (by decide)), gv_ln (ro 5 (by decide)), gv_kd (ro 6 (by decide)), gv_ln (ro 6 (by decide)), h1]
    exact q1
  · unfold gx_B at q2 ⊢
    simp only [gv_fv r0, gv_fv (ro 2 (by decide))]
    exact q2
  · show (if c' = c then some C' else gs_cls K c') = none
    rw [if_neg (by omega)]
    exact q3.1.2 c' z
  · have z2 : (if c' = c then some C' else gs_cls K c') = none := z2
    by_cases e : c' = c
    · rw [if_pos e] at z2; cases z2
    · rw [if_neg e] at z2
      rw [gv_fv (ro 1 (by decide))]
      exact (q3.2 c' z).1 z2
  · have z2 : (if c' = c then some C' else gs_cls K c') = some C2 := z2
    by_cases e : c' = c
    · rw [if_pos e] at z2
      cases z2
      subst e
      obtain ⟨y1, y2, y3⟩ := (q3.2 c' z).2 C hC
      exact ⟨by rw [gv_fv (ro 1 (by decide))]; exact y1, hcl, fun s' e' => by
        rw [hs] at e'
        exact ⟨(y3 s' e').1, (cs s').mp (y3 s' e').2⟩⟩
    · rw [if_neg e] at z2
      obtain ⟨y1, ⟨⟨p1, p2, p3⟩, g1, g2, g3, g4, g5, g6, g7, g8, g9, g10, g11, g12, g13, g14, g15, g16⟩, y3⟩ := (q3.2 c' z).2 C2 z2
      have hne : ca c' ≠ ca c := fun w => e (q3.inj z2 hC w)
      have n1 : ca c' ≠ ca c + 1 := fun w => by rw [w] at g1; omega
      have n2 : ca c' ≠ ca c + 2 := fun w => by rw [w] at g1; omega
      have m1 : ca c' + 1 ≠ ca c := fun w => by rw [w] at g12; omega
      have m2 : ca c' + 2 ≠ ca c := fun w => by rw [w] at g14; omega
      have ea := hr (ca c') hne n1 n2
      have eu := hr (ca c' + 1) m1 (by omega) (by omega)
      have ew := hr (ca c' + 2) m2 (by omega) (by omega)
      refine ⟨by rw [gv_fv (ro 1 (by decide))]; exact y1, ⟨⟨ok p1, ok p2, ok p3⟩, ?_⟩, fun s' e' => ⟨(y3 s' e').1, (cs s').mp (y3 s' e').2⟩⟩
      simp only [gv_kd ea, gv_kd eu, gv_kd ew, gv_ln eu, gv_ln ew, gv_fv ea, gv_fv eu, gv_fv ew]
      exact ⟨g1, g2, g3, g4, g5, g6, g7, g8, g9, g10, g11, g12, g13, g14, g15, g16⟩
  · unfold gx_M at q4 ⊢
    simp only [gv_fv r0, gv_fv (ro 4 (by decide))]
    exact q4
  · obtain ⟨b1, b2, b3⟩ := q5.2 i o z
    exact ⟨by rw [gv_fv (ro 3 (by decide))]; exact b1, ⟨ok b2.1, ok b2.2⟩, b3.tr (ne b3.1 (by decide) (by decide)) (ne b3.2.2.2.2.2.2.1 (by decide) (by decide))⟩
  · rw [gv_fv (ro 5 (by decide)), gv_fv (ro 6 (by decide))]
    exact ⟨(q6 i e z).1, ds (q6 i e z).2⟩
/-- a field of the class's own cell -/
theorem gx_X.cls {c j : Nat} {C C' : gs_C} {v : Value} (X : gx_X E h x ca K s lf) (hC : gs_cls K c = some C) (hs : gs_sup C' = gs_sup C) (hcl : gx_cl (gm_sf h (ca c) j v) x ca (fun _ => False) c C' (ca c)) : gx_X E (gm_sf h (ca c) j v) x ca (gs_def1 K c C') s lf := by
  obtain ⟨-, -, ⟨⟨o1, -, -⟩, -⟩⟩ := X.1.2.2.1.at hC
  refine ⟨X.1.cls hC gm_sf_1 (fun a n1 _ _ => gm_rd_sfn n1) hcl hs, ?_⟩
  rw [gm_fv_sfa (by have := o1.1; omega)]
  exact X.2
/-- may the constant be had, the class be barred; what becomes of the classes -/
def gs_cst (K : gs_K) (n nm on : Int32) : Int32 × gs_K := match gs_cn K n with
  | none => (-1, K)
  | some c => match gs_cls K c with
    | none => (-1, K)
    | some C => if gs_kind C = 3 then (if nm < 0 ∨ 26 ≤ nm then (-1, K) else (0, gs_def1 K c (C.1, C.2.1, C.2.2.1, C.2.2.2.1, C.2.2.2.2.1, gs_con C ||| 1 <<< (nm &&& 31)))) else (0, gs_def1 K c (C.1, C.2.1, C.2.2.1, C.2.2.2.1, decide (on = 1), C.2.2.2.2.2))
theorem gs_cn_some {n : Int32} {c : Nat} (e : gs_cn K n = some c) : (gs_cls K c).isSome = true := by
  unfold gs_cn at e
  split at e
  · cases e
  · split at e
    · rename_i z; cases e; exact z
    · cases e
theorem x_constant {n nm on : Int32} (hd : 1 ≤ d) (hon : on = 0 ∨ on = 1) (X : gx_X E h x ca K s lf) : gm_Ca E d 54 [.ref x, .int n, .int nm, .int on] h (fun r h' => r = .inl (some (.int (gs_cst K n nm on).1)) ∧ gx_X E h' x ca (gs_cst K n nm on).2 s lf ∧ h'.1 = h.1 ∧ h'.2.1 = h.2.1) := by
  have R := X.1
  show gm_W E d 54 0 [.ref x, .int n, .int nm, .int on, gm_u] [] h _
  simp only [r54_0, r54_0n, r54_1, r54_5, r54_5n, r54_7, r54_7n, r54_9n, r54_9, r54_12, r54_13, r54_14, r54_14n, r54_16, r54_19, r54_20, r54_23, r54_23n, r54_25, r54_26, r54_29, r54_30, r54_31, r54_35, r54_38, r54_39, r54_40, r54_40n, r54_42, r54_42i, r54_43, r54_46, r54_47, r54_48, r54_49, r54_50, r54_53, r54_54, i32_10, reduceIte, gm_cmp1, gm_cmp3, gm_cmp4, gm_kd_sf, gm_ln_sf, gm_sf_1, gm_sf_2, gm_nw_1, gm_nw_2, gm_k_int, gm_k_ref, gm_k_null, gm_k_u, gm_k_long, and_true, true_and, true_or, or_true, or_false, false_or, and_self, or_self, if_true, if_false, List.map_nil, List.map_cons, List.sum_nil, List.sum_cons, Nat.zero_le, Option.toList_some, Option.toList_none, List.cons_append, List.nil_append, ne_eq, not_false_eq_true, not_true_eq_false, nI_1, nI_add, Value.category, Nat.reduceAdd, Nat.reduceMod, Nat.reduceLeDiff, Nat.reduceLT, Nat.reduceEqDiff, Nat.reducePow, Nat.le_refl, Nat.add_left_cancel_iff, Nat.add_eq_left, Nat.left_eq_add, Nat.add_zero]
  refine c54_2 (by simp) R.1.1 hd (x_classNumbered R) (gx_kn ?_) gx_kx
  unfold gs_cst
  cases e : gs_cn K n with
  | none =>
    simp only [r54_0, r54_0n, r54_1, r54_5, r54_5n, r54_7, r54_7n, r54_9n, r54_9, r54_12, r54_13, r54_14, r54_14n, r54_16, r54_19, r54_20, r54_23, r54_23n, r54_25, r54_26, r54_29, r54_30, r54_31, r54_35, r54_38, r54_39, r54_40, r54_40n, r54_42, r54_42i, r54_43, r54_46, r54_47, r54_48, r54_49, r54_50, r54_53, r54_54, i32_10, reduceIte, gm_cmp1, gm_cmp3, gm_cmp4, gm_kd_sf, gm_ln_sf, gm_sf_1, gm_sf_2, gm_nw_1, gm_nw_2, gm_k_int, gm_k_ref, gm_k_null, gm_k_u, gm_k_long, and_true, true_and, true_or, or_true, or_false, false_or, and_self, or_self, if_true, if_false, List.map_nil, List.map_cons, List.sum_nil, List.sum_cons, Nat.zero_le, Option.toList_some, Option.toList_none, List.cons_append, List.nil_append, ne_eq, not_false_eq_true, not_true_eq_false, nI_1, nI_add, Value.category, Nat.reduceAdd, Nat.reduceMod, Nat.reduceLeDiff, Nat.reduceLT, Nat.reduceEqDiff, Nat.reducePow, Nat.le_refl, Nat.add_left_cancel_iff, Nat.add_eq_left, Nat.left_eq_add, Nat.add_zero, gx_ow]
    exact X
  | some c =>
    obtain ⟨C, hC⟩ := Option.isSome_iff_exists.mp (gs_cn_some e)
    have q := (R.2.2.1.at hC).2.2
    have q' := q
    obtain ⟨p0, k3, p2, p3, p4, p5, p6, p7, p8, p9, p10, p11, p12, p13, p14, p15, p16⟩ := q'
    have lc : gm_ln h (ca c) = 9 := gm_kd_ln k3 (by decide)
    have n1 : ca c + 1 ≠ ca c := by omega
    have n2 : ca c + 2 ≠ ca c := by omega
    dsimp only
    rw [hC]
    dsimp only
    by_cases k33 : gs_kind C = 3
    · rw [if_pos k33]
      simp only [r54_0, r54_0n, r54_1, r54_5, r54_5n, r54_7, r54_7n, r54_9n, r54_9, r54_12, r54_13, r54_14, r54_14n, r54_16, r54_19, r54_20, r54_23, r54_23n, r54_25, r54_26, r54_29, r54_30, r54_31, r54_35, r54_38, r54_39, r54_40, r54_40n, r54_42, r54_42i, r54_43, r54_46, r54_47, r54_48, r54_49, r54_50, r54_53, r54_54, i32_10, reduceIte, gm_cmp1, gm_cmp3, gm_cmp4, gm_kd_sf, gm_ln_sf, gm_sf_1, gm_sf_2, gm_nw_1, gm_nw_2, gm_k_int, gm_k_ref, gm_k_null, gm_k_u, gm_k_long, and_true, true_and, true_or, or_true, or_false, false_or, and_self, or_self, if_true, if_false, List.map_nil, List.map_cons, List.sum_nil, List.sum_cons, Nat.zero_le, Option.toList_some, Option.toList_none, List.cons_append, List.nil_append, ne_eq, not_false_eq_true, not_true_eq_false, nI_1, nI_add, Value.category, Nat.reduceAdd, Nat.reduceMod, Nat.reduceLeDiff, Nat.reduceLT, Nat.reduceEqDiff, Nat.reducePow, Nat.le_refl, Nat.add_left_cancel_iff, Nat.add_eq_left, Nat.left_eq_add, Nat.add_zero, gx_ow, k3, p3, k33]
      refine c54_32 (by simp) hd (x_isName nm) (gx_kn ?_) gx_kx
      by_cases m0 : nm < 0
      · simp only [r54_0, r54_0n, r54_1, r54_5, r54_5n, r54_7, r54_7n, r54_9n, r54_9, r54_12, r54_13, r54_14, r54_14n, r54_16, r54_19, r54_20, r54_23, r54_23n, r54_25, r54_26, r54_29, r54_30, r54_31, r54_35, r54_38, r54_39, r54_40, r54_40n, r54_42, r54_42i, r54_43, r54_46, r54_47, r54_48, r54_49, r54_50, r54_53, r54_54, i32_10, reduceIte, gm_cmp1, gm_cmp3, gm_cmp4, gm_kd_sf, gm_ln_sf, gm_sf_1, gm_sf_2, gm_nw_1, gm_nw_2, gm_k_int, gm_k_ref, gm_k_null, gm_k_u, gm_k_long, and_true, true_and, true_or, or_true, or_false, false_or, and_self, or_self, if_true, if_false, List.map_nil, List.map_cons, List.sum_nil, List.sum_cons, Nat.zero_le, Option.toList_some, Option.toList_none, List.cons_append, List.nil_append, ne_eq, not_false_eq_true, not_true_eq_false, nI_1, nI_add, Value.category, Nat.reduceAdd, Nat.reduceMod, Nat.reduceLeDiff, Nat.reduceLT, Nat.reduceEqDiff, Nat.reducePow, Nat.le_refl, Nat.add_left_cancel_iff, Nat.add_eq_left, Nat.left_eq_add, Nat.add_zero, m0]
        exact X
      by_cases m1 : 26 ≤ nm
      · simp only [r54_0, r54_0n, r54_1, r54_5, r54_5n, r54_7, r54_7n, r54_9n, r54_9, r54_12, r54_13, r54_14, r54_14n, r54_16, r54_19, r54_20, r54_23, r54_23n, r54_25, r54_26, r54_29, r54_30, r54_31, r54_35, r54_38, r54_39, r54_40, r54_40n, r54_42, r54_42i, r54_43, r54_46, r54_47, r54_48, r54_49, r54_50, r54_53, r54_54, i32_10, reduceIte, gm_cmp1, gm_cmp3, gm_cmp4, gm_kd_sf, gm_ln_sf, gm_sf_1, gm_sf_2, gm_nw_1, gm_nw_2, gm_k_int, gm_k_ref, gm_k_null, gm_k_u, gm_k_long, and_true, true_and, true_or, or_true, or_false, false_or, and_self, or_self, if_true, if_false, List.map_nil, List.map_cons, List.sum_nil, List.sum_cons, Nat.zero_le, Option.toList_some, Option.toList_none, List.cons_append, List.nil_append, ne_eq, not_false_eq_true, not_true_eq_false, nI_1, nI_add, Value.category, Nat.reduceAdd, Nat.reduceMod, Nat.reduceLeDiff, Nat.reduceLT, Nat.reduceEqDiff, Nat.reducePow, Nat.le_refl, Nat.add_left_cancel_iff, Nat.add_eq_left, Nat.left_eq_add, Nat.add_zero, m0, m1]
        exact X
      simp only [r54_0, r54_0n, r54_1, r54_5, r54_5n, r54_7, r54_7n, r54_9n, r54_9, r54_12, r54_13, r54_14, r54_14n, r54_16, r54_19, r54_20, r54_23, r54_23n, r54_25, r54_26, r54_29, r54_30, r54_31, r54_35, r54_38, r54_39, r54_40, r54_40n, r54_42, r54_42i, r54_43, r54_46, r54_47, r54_48, r54_49, r54_50, r54_53, r54_54, i32_10, reduceIte, gm_cmp1, gm_cmp3, gm_cmp4, gm_kd_sf, gm_ln_sf, gm_sf_1, gm_sf_2, gm_nw_1, gm_nw_2, gm_k_int, gm_k_ref, gm_k_null, gm_k_u, gm_k_long, and_true, true_and, true_or, or_true, or_false, false_or, and_self, or_self, if_true, if_false, List.map_nil, List.map_cons, List.sum_nil, List.sum_cons, Nat.zero_le, Option.toList_some, Option.toList_none, List.cons_append, List.nil_append, ne_eq, not_false_eq_true, not_true_eq_false, nI_1, nI_add, Value.category, Nat.reduceAdd, Nat.reduceMod, Nat.reduceLeDiff, Nat.reduceLT, Nat.reduceEqDiff, Nat.reducePow, Nat.le_refl, Nat.add_left_cancel_iff, Nat.add_eq_left, Nat.left_eq_add, Nat.add_zero, m0, m1, k3, p10]
      refine X.cls hC rfl ⟨⟨p0.1.tr (by rw [gm_sf_1]; exact Nat.le_refl _), p0.2.1.tr (by rw [gm_sf_1]; exact Nat.le_refl _), p0.2.2.tr (by rw [gm_sf_1]; exact Nat.le_refl _)⟩, ?_⟩
      simp only [gm_kd_sf, gm_ln_sf, gm_fv_sfa n1, gm_fv_sfa n2, gm_fv_sfj (show (0 : Nat) ≠ 8 by decide), gm_fv_sfj (show (1 : Nat) ≠ 8 by decide), gm_fv_sfj (show (2 : Nat) ≠ 8 by decide), gm_fv_sfj (show (3 : Nat) ≠ 8 by decide), gm_fv_sfj (show (4 : Nat) ≠ 8 by decide), gm_fv_sfj (show (5 : Nat) ≠ 8 by decide), gm_fv_sfj (show (6 : Nat) ≠ 8 by decide), gm_fv_sfj (show (7 : Nat) ≠ 8 by decide)]
      exact ⟨k3, p2, p3, p4, p5, p6, p7, p8, p9, gm_fv_sf (by rw [lc]; decide), p11, p12, p13, p14, p15, p16⟩
    · rw [if_neg k33]
      simp only [r54_0, r54_0n, r54_1, r54_5, r54_5n, r54_7, r54_7n, r54_9n, r54_9, r54_12, r54_13, r54_14, r54_14n, r54_16, r54_19, r54_20, r54_23, r54_23n, r54_25, r54_26, r54_29, r54_30, r54_31, r54_35, r54_38, r54_39, r54_40, r54_40n, r54_42, r54_42i, r54_43, r54_46, r54_47, r54_48, r54_49, r54_50, r54_53, r54_54, i32_10, reduceIte, gm_cmp1, gm_cmp3, gm_cmp4, gm_kd_sf, gm_ln_sf, gm_sf_1, gm_sf_2, gm_nw_1, gm_nw_2, gm_k_int, gm_k_ref, gm_k_null, gm_k_u, gm_k_long, and_true, true_and, true_or, or_true, or_false, false_or, and_self, or_self, if_true, if_false, List.map_nil, List.map_cons, List.sum_nil, List.sum_cons, Nat.zero_le, Option.toList_some, Option.toList_none, List.cons_append, List.nil_append, ne_eq, not_false_eq_true, not_true_eq_false, nI_1, nI_add, Value.category, Nat.reduceAdd, Nat.reduceMod, Nat.reduceLeDiff, Nat.reduceLT, Nat.reduceEqDiff, Nat.reducePow, Nat.le_refl, Nat.add_left_cancel_iff, Nat.add_eq_left, Nat.left_eq_add, Nat.add_zero, gx_ow, k3, p3, k33, hon]
      refine X.cls hC rfl ⟨⟨p0.1.tr (by rw [gm_sf_1]; exact Nat.le_refl _), p0.2.1.tr (by rw [gm_sf_1]; exact Nat.le_refl _), p0.2.2.tr (by rw [gm_sf_1]; exact Nat.le_refl _)⟩, ?_⟩
      simp only [gm_kd_sf, gm_ln_sf, gm_fv_sfa n1, gm_fv_sfa n2, gm_fv_sfj (show (0 : Nat) ≠ 7 by decide), gm_fv_sfj (show (1 : Nat) ≠ 7 by decide), gm_fv_sfj (show (2 : Nat) ≠ 7 by decide), gm_fv_sfj (show (3 : Nat) ≠ 7 by decide), gm_fv_sfj (show (4 : Nat) ≠ 7 by decide), gm_fv_sfj (show (5 : Nat) ≠ 7 by decide), gm_fv_sfj (show (6 : Nat) ≠ 7 by decide), gm_fv_sfj (show (8 : Nat) ≠ 7 by decide)]
      refine ⟨k3, p2, p3, p4, p5, p6, p7, p8, ?_, p10, p11, p12, p13, p14, p15, p16⟩
      rw [gm_fv_sf (by rw [lc]; decide)]
      rcases hon with rfl | rfl <;> rfl
end Z8
/-! THE CLASS, 26: field, passBlock. -/
section Z9
variable {E : Nat → Value} {d x b : Nat} {h h' : gm_H} {ca ca' : Nat → Nat} {K K' : gs_K} {F G : Nat → Prop} {s : gs_S} {lf : Int32}
def gs_fld (K : gs_K) (s : gs_S) (n nm t : Int32) : Int32 × gs_K := match gs_cn K n with
  | none => (-1, K)
  | some c => match gs_cls K c with
    | none => (-1, K)
    | some C => if gs_kind C = 3 ∨ (nm < 0 ∨ 26 ≤ nm) ∨ t < 0 ∨ 7 < t ∨ gs_hp s ≠ [] ∨ (gs_fs C).length = 4 ∨ (gs_ix (gs_fs C) nm).isSome = true then (-1, K) else (nI ((gs_fs C).length + 1), gs_def1 K c (C.1, C.2.1, C.2.2.1, gs_fs C ++ [(nm, t)], C.2.2.2.2))
theorem x_field {n nm t : Int32} (hd : 1 ≤ d) (X : gx_X E h x ca K s lf) : gm_Ca E d 53 [.ref x, .int n, .int nm, .int t] h (fun r h' => r = .inl (some (.int (gs_fld K s n nm t).1)) ∧ gx_X E h' x ca (gs_fld K s n nm t).2 s lf ∧ h'.1 = h.1 ∧ h'.2.1 = h.2.1) := by
  have R := X.1
  obtain ⟨z1, z2, z3, z4, z5, z6, z7, z8, z9⟩ := R.2.2.2.1
  show gm_W E d 53 0 [.ref x, .int n, .int nm, .int t, gm_u] [] h _
  simp only [r53_0, r53_0n, r53_1, r53_5, r53_5n, r53_7, r53_7n, r53_9n, r53_9, r53_12, r53_12n, r53_14, r53_17, r53_18, r53_21, r53_25, r53_28, r53_29, r53_32, r53_33, r53_35, r53_38, r53_39, r53_40, r53_40n, r53_41, r53_44, r53_47, r53_47n, r53_49, r53_52, r53_53, r53_56, r53_56n, r53_58, r53_62, r53_65, r53_66, r53_67, r53_67n, r53_69, r53_70, r53_74, r53_74n, r53_76, r53_79, i32_10, reduceIte, gm_cmp1, gm_cmp3, gm_cmp4, gm_kd_sf, gm_ln_sf, gm_sf_1, gm_sf_2, gm_nw_1, gm_nw_2, gm_k_int, gm_k_ref, gm_k_null, gm_k_u, gm_k_long, and_true, true_and, true_or, or_true, or_false, false_or, and_self, or_self, if_true, if_false, List.map_nil, List.map_cons, List.sum_nil, List.sum_cons, Nat.zero_le, Option.toList_some, Option.toList_none, List.cons_append, List.nil_append, ne_eq, not_false_eq_true, not_true_eq_false, nI_1, nI_add, Value.category, Nat.reduceAdd, Nat.reduceMod, Nat.reduceLeDiff, Nat.reduceLT, Nat.reduceEqDiff, Nat.reducePow, Nat.le_refl, Nat.add_left_cancel_iff, Nat.add_eq_left, Nat.left_eq_add, Nat.add_zero]
  refine c53_2 (by simp) R.1.1 hd (x_classNumbered R) (gx_kn ?_) gx_kx
  unfold gs_fld
  cases e : gs_cn K n with
  | none =>
    simp only [r53_0, r53_0n, r53_1, r53_5, r53_5n, r53_7, r53_7n, r53_9n, r53_9, r53_12, r53_12n, r53_14, r53_17, r53_18, r53_21, r53_25, r53_28, r53_29, r53_32, r53_33, r53_35, r53_38, r53_39, r53_40, r53_40n, r53_41, r53_44, r53_47, r53_47n, r53_49, r53_52, r53_53, r53_56, r53_56n, r53_58, r53_62, r53_65, r53_66, r53_67, r53_67n, r53_69, r53_70, r53_74, r53_74n, r53_76, r53_79, i32_10, reduceIte, gm_cmp1, gm_cmp3, gm_cmp4, gm_kd_sf, gm_ln_sf, gm_sf_1, gm_sf_2, gm_nw_1, gm_nw_2, gm_k_int, gm_k_ref, gm_k_null, gm_k_u, gm_k_long, and_true, true_and, true_or, or_true, or_false, false_or, and_self, or_self, if_true, if_false, List.map_nil, List.map_cons, List.sum_nil, List.sum_cons, Nat.zero_le, Option.toList_some, Option.toList_none, List.cons_append, List.nil_append, ne_eq, not_false_eq_true, not_true_eq_false, nI_1, nI_add, Value.category, Nat.reduceAdd, Nat.reduceMod, Nat.reduceLeDiff, Nat.reduceLT, Nat.reduceEqDiff, Nat.reducePow, Nat.le_refl, Nat.add_left_cancel_iff, Nat.add_eq_left, Nat.left_eq_add, Nat.add_zero, gx_ow]
    exact X
  | some c =>
    obtain ⟨C, hC⟩ := Option.isSome_iff_exists.mp (gs_cn_some e)
    have q := (R.2.2.1.at hC).2.2
    have q' := q
    obtain ⟨p0, k3, p2, p3, p4, p5, p6, p7, p8, p9, p10, p11, p12, p13, p14, p15, p16⟩ := q'
    have lc : gm_ln h (ca c) = 9 := gm_kd_ln k3 (by decide)
    dsimp only
    rw [hC]
    dsimp only
    obtain ⟨Q, hQ⟩ : ∃ Q : gm_R → gm_H → Prop, Q = (fun r h' => r = .inl (some (.int (if gs_kind C = 3 ∨ (nm < 0 ∨ 26 ≤ nm) ∨ t < 0 ∨ 7 < t ∨ gs_hp s ≠ [] ∨ (gs_fs C).length = 4 ∨ (gs_ix (gs_fs C) nm).isSome = true then (-1, K) else (nI ((gs_fs C).length + 1), gs_def1 K c (C.1, C.2.1, C.2.2.1, gs_fs C ++ [(nm, t)], C.2.2.2.2))).1)) ∧ gx_X E h' x ca (if gs_kind C = 3 ∨ (nm < 0 ∨ 26 ≤ nm) ∨ t < 0 ∨ 7 < t ∨ gs_hp s ≠ [] ∨ (gs_fs C).length = 4 ∨ (gs_ix (gs_fs C) nm).isSome = true then (-1, K) else (nI ((gs_fs C).length + 1), gs_def1 K c (C.1, C.2.1, C.2.2.1, gs_fs C ++ [(nm, t)], C.2.2.2.2))).2 s lf ∧ h'.1 = h.1 ∧ h'.2.1 = h.2.1) := ⟨_, rfl⟩
    rw [← hQ]
    have no : (gs_kind C = 3 ∨ (nm < 0 ∨ 26 ≤ nm) ∨ t < 0 ∨ 7 < t ∨ gs_hp s ≠ [] ∨ (gs_fs C).length = 4 ∨ (gs_ix (gs_fs C) nm).isSome = true) → Q (.inl (some (.int (-1)))) h := by
      intro z
      rw [hQ]
      simp only [if_pos z]
      exact ⟨trivial, X, trivial, trivial⟩
    by_cases c1 : gs_kind C = 3
    · simp only [r53_0, r53_0n, r53_1, r53_5, r53_5n, r53_7, r53_7n, r53_9n, r53_9, r53_12, r53_12n, r53_14, r53_17, r53_18, r53_21, r53_25, r53_28, r53_29, r53_32, r53_33, r53_35, r53_38, r53_39, r53_40, r53_40n, r53_41, r53_44, r53_47, r53_47n, r53_49, r53_52, r53_53, r53_56, r53_56n, r53_58, r53_62, r53_65, r53_66, r53_67, r53_67n, r53_69, r53_70, r53_74, r53_74n, r53_76, r53_79, i32_10, reduceIte, gm_cmp1, gm_cmp3, gm_cmp4, gm_kd_sf, gm_ln_sf, gm_sf_1, gm_sf_2, gm_nw_1, gm_nw_2, gm_k_int, gm_k_ref, gm_k_null, gm_k_u, gm_k_long, and_true, true_and, true_or, or_true, or_false, false_or, and_self, or_self, if_true, if_false, List.map_nil, List.map_cons, List.sum_nil, List.sum_cons, Nat.zero_le, Option.toList_some, Option.toList_none, List.cons_append, List.nil_append, ne_eq, not_false_eq_true, not_true_eq_false, nI_1, nI_add, Value.category, Nat.reduceAdd, Nat.reduceMod, Nat.reduceLeDiff, Nat.reduceLT, Nat.reduceEqDiff, Nat.reducePow, Nat.le_refl, Nat.add_left_cancel_iff, Nat.add_eq_left, Nat.left_eq_add, Nat.add_zero, gx_ow, k3, p3, c1]
      exact no (Or.inl c1)
    simp only [r53_0, r53_0n, r53_1, r53_5, r53_5n, r53_7, r53_7n, r53_9n, r53_9, r53_12, r53_12n, r53_14, r53_17, r53_18, r53_21, r53_25, r53_28, r53_29, r53_32, r53_33, r53_35, r53_38, r53_39, r53_40, r53_40n, r53_41, r53_44, r53_47, r53_47n, r53_49, r53_52, r53_53, r53_56, r53_56n, r53_58, r53_62, r53_65, r53_66, r53_67, r53_67n, r53_69, r53_70, r53_74, r53_74n, r53_76, r53_79, i32_10, reduceIte, gm_cmp1, gm_cmp3, gm_cmp4, gm_kd_sf, gm_ln_sf, gm_sf_1, gm_sf_2, gm_nw_1, gm_nw_2, gm_k_int, gm_k_ref, gm_k_null, gm_k_u, gm_k_long, and_true, true_and, true_or, or_true, or_false, false_or, and_self, or_self, if_true, if_false, List.map_nil, List.map_cons, List.sum_nil, List.sum_cons, Nat.zero_le, Option.toList_some, Option.toList_none, List.cons_append, List.nil_append, ne_eq, not_false_eq_true, not_true_eq_false, nI_1, nI_add, Value.category, Nat.reduceAdd, Nat.reduceMod, Nat.reduceLeDiff, Nat.reduceLT, Nat.reduceEqDiff, Nat.reducePow, Nat.le_refl, Nat.add_left_cancel_iff, Nat.add_eq_left, Nat.left_eq_add, Nat.add_zero, gx_ow, k3, p3, c1]
    refine c53_22 (by simp) hd (x_isName nm) (gx_kn ?_) gx_kx
    by_cases c2 : nm < 0
    · simp only [r53_0, r53_0n, r53_1, r53_5, r53_5n, r53_7, r53_7n, r53_9n, r53_9, r53_12, r53_12n, r53_14, r53_17, r53_18, r53_21, r53_25, r53_28, r53_29, r53_32, r53_33, r53_35, r53_38, r53_39, r53_40, r53_40n, r53_41, r53_44, r53_47, r53_47n, r53_49, r53_52, r53_53, r53_56, r53_56n, r53_58, r53_62, r53_65, r53_66, r53_67, r53_67n, r53_69, r53_70, r53_74, r53_74n, r53_76, r53_79, i32_10, reduceIte, gm_cmp1, gm_cmp3, gm_cmp4, gm_kd_sf, gm_ln_sf, gm_sf_1, gm_sf_2, gm_nw_1, gm_nw_2, gm_k_int, gm_k_ref, gm_k_null, gm_k_u, gm_k_long, and_true, true_and, true_or, or_true, or_false, false_or, and_self, or_self, if_true, if_false, List.map_nil, List.map_cons, List.sum_nil, List.sum_cons, Nat.zero_le, Option.toList_some, Option.toList_none, List.cons_append, List.nil_append, ne_eq, not_false_eq_true, not_true_eq_false, nI_1, nI_add, Value.category, Nat.reduceAdd, Nat.reduceMod, Nat.reduceLeDiff, Nat.reduceLT, Nat.reduceEqDiff, Nat.reducePow, Nat.le_refl, Nat.add_left_cancel_iff, Nat.add_eq_left, Nat.left_eq_add, Nat.add_zero, c2]
      exact no (Or.inr (Or.inl (Or.inl c2)))
    by_cases c3 : 26 ≤ nm
    · simp only [r53_0, r53_0n, r53_1, r53_5, r53_5n, r53_7, r53_7n, r53_9n, r53_9, r53_12, r53_12n, r53_14, r53_17, r53_18, r53_21, r53_25, r53_28, r53_29, r53_32, r53_33, r53_35, r53_38, r53_39, r53_40, r53_40n, r53_41, r53_44, r53_47, r53_47n, r53_49, r53_52, r53_53, r53_56, r53_56n, r53_58, r53_62, r53_65, r53_66, r53_67, r53_67n, r53_69, r53_70, r53_74, r53_74n, r53_76, r53_79, i32_10, reduceIte, gm_cmp1, gm_cmp3, gm_cmp4, gm_kd_sf, gm_ln_sf, gm_sf_1, gm_sf_2, gm_nw_1, gm_nw_2, gm_k_int, gm_k_ref, gm_k_null, gm_k_u, gm_k_long, and_true, true_and, true_or, or_true, or_false, false_or, and_self, or_self, if_true, if_false, List.map_nil, List.map_cons, List.sum_nil, List.sum_cons, Nat.zero_le, Option.toList_some, Option.toList_none, List.cons_append, List.nil_append, ne_eq, not_false_eq_true, not_true_eq_false, nI_1, nI_add, Value.category, Nat.reduceAdd, Nat.reduceMod, Nat.reduceLeDiff, Nat.reduceLT, Nat.reduceEqDiff, Nat.reducePow, Nat.le_refl, Nat.add_left_cancel_iff, Nat.add_eq_left, Nat.left_eq_add, Nat.add_zero, c2, c3]
      exact no (Or.inr (Or.inl (Or.inr c3)))
    by_cases c4 : t < 0
    · simp only [r53_0, r53_0n, r53_1, r53_5, r53_5n, r53_7, r53_7n, r53_9n, r53_9, r53_12, r53_12n, r53_14, r53_17, r53_18, r53_21, r53_25, r53_28, r53_29, r53_32, r53_33, r53_35, r53_38, r53_39, r53_40, r53_40n, r53_41, r53_44, r53_47, r53_47n, r53_49, r53_52, r53_53, r53_56, r53_56n, r53_58, r53_62, r53_65, r53_66, r53_67, r53_67n, r53_69, r53_70, r53_74, r53_74n, r53_76, r53_79, i32_10, reduceIte, gm_cmp1, gm_cmp3, gm_cmp4, gm_kd_sf, gm_ln_sf, gm_sf_1, gm_sf_2, gm_nw_1, gm_nw_2, gm_k_int, gm_k_ref, gm_k_null, gm_k_u, gm_k_long, and_true, true_and, true_or, or_true, or_false, false_or, and_self, or_self, if_true, if_false, List.map_nil, List.map_cons, List.sum_nil, List.sum_cons, Nat.zero_le, Option.toList_some, Option.toList_none, List.cons_append, List.nil_append, ne_eq, not_false_eq_true, not_true_eq_false, nI_1, nI_add, Value.category, Nat.reduceAdd, Nat.reduceMod, Nat.reduceLeDiff, Nat.reduceLT, Nat.reduceEqDiff, Nat.reducePow, Nat.le_refl, Nat.add_left_cancel_iff, Nat.add_eq_left, Nat.left_eq_add, Nat.add_zero, c2, c3, c4]
      exact no (Or.inr (Or.inr (Or.inl c4)))
    by_cases c5 : 7 < t
    · have c5' : ¬ t ≤ 7 := Int32.not_le.mpr c5
      simp only [r53_0, r53_0n, r53_1, r53_5, r53_5n, r53_7, r53_7n, r53_9n, r53_9, r53_12, r53_12n, r53_14, r53_17, r53_18, r53_21, r53_25, r53_28, r53_29, r53_32, r53_33, r53_35, r53_38, r53_39, r53_40, r53_40n, r53_41, r53_44, r53_47, r53_47n, r53_49, r53_52, r53_53, r53_56, r53_56n, r53_58, r53_62, r53_65, r53_66, r53_67, r53_67n, r53_69, r53_70, r53_74, r53_74n, r53_76, r53_79, i32_10, reduceIte, gm_cmp1, gm_cmp3, gm_cmp4, gm_kd_sf, gm_ln_sf, gm_sf_1, gm_sf_2, gm_nw_1, gm_nw_2, gm_k_int, gm_k_ref, gm_k_null, gm_k_u, gm_k_long, and_true, true_and, true_or, or_true, or_false, false_or, and_self, or_self, if_true, if_false, List.map_nil, List.map_cons, List.sum_nil, List.sum_cons, Nat.zero_le, Option.toList_some, Option.toList_none, List.cons_append, List.nil_append, ne_eq, not_false_eq_true, not_true_eq_false, nI_1, nI_add, Value.category, Nat.reduceAdd, Nat.reduceMod, Nat.reduceLeDiff, Nat.reduceLT, Nat.reduceEqDiff, Nat.reducePow, Nat.le_refl, Nat.add_left_cancel_iff, Nat.add_eq_left, Nat.left_eq_add, Nat.add_zero, c2, c3, c4, c5']
      exact no (Or.inr (Or.inr (Or.inr (Or.inl c5))))
    have c5' : t ≤ 7 := Int32.not_lt.mp c5
    by_cases c6 : gs_hp s ≠ []
    · have l6 : ¬ nI (gs_hp s).length = 0 := nI_ne0 (List.length_pos_iff.mpr c6) (by omega)
      simp only [r53_0, r53_0n, r53_1, r53_5, r53_5n, r53_7, r53_7n, r53_9n, r53_9, r53_12, r53_12n, r53_14, r53_17, r53_18, r53_21, r53_25, r53_28, r53_29, r53_32, r53_33, r53_35, r53_38, r53_39, r53_40, r53_40n, r53_41, r53_44, r53_47, r53_47n, r53_49, r53_52, r53_53, r53_56, r53_56n, r53_58, r53_62, r53_65, r53_66, r53_67, r53_67n, r53_69, r53_70, r53_74, r53_74n, r53_76, r53_79, i32_10, reduceIte, gm_cmp1, gm_cmp3, gm_cmp4, gm_kd_sf, gm_ln_sf, gm_sf_1, gm_sf_2, gm_nw_1, gm_nw_2, gm_k_int, gm_k_ref, gm_k_null, gm_k_u, gm_k_long, and_true, true_and, true_or, or_true, or_false, false_or, and_self, or_self, if_true, if_false, List.map_nil, List.map_cons, List.sum_nil, List.sum_cons, Nat.zero_le, Option.toList_some, Option.toList_none, List.cons_append, List.nil_append, ne_eq, not_false_eq_true, not_true_eq_false, nI_1, nI_add, Value.category, Nat.reduceAdd, Nat.reduceMod, Nat.reduceLeDiff, Nat.reduceLT, Nat.reduceEqDiff, Nat.reducePow, Nat.le_refl, Nat.add_left_cancel_iff, Nat.add_eq_left, Nat.left_eq_add, Nat.add_zero, c2, c3, c4, c5', R.1.1, z3, l6]
      exact no (Or.inr (Or.inr (Or.inr (Or.inr (Or.inl c6)))))
    have c6' : gs_hp s = [] := Decidable.of_not_not c6
    have l6 : nI (gs_hp s).length = 0 := by rw [c6']; rfl
    have e4 : (nI (gs_fs C).length = 4) = ((gs_fs C).length = 4) := propext (nI_eq (b := 4) (by omega) (by decide))
    by_cases c7 : (gs_fs C).length = 4
    · simp only [r53_0, r53_0n, r53_1, r53_5, r53_5n, r53_7, r53_7n, r53_9n, r53_9, r53_12, r53_12n, r53_14, r53_17, r53_18, r53_21, r53_25, r53_28, r53_29, r53_32, r53_33, r53_35, r53_38, r53_39, r53_40, r53_40n, r53_41, r53_44, r53_47, r53_47n, r53_49, r53_52, r53_53, r53_56, r53_56n, r53_58, r53_62, r53_65, r53_66, r53_67, r53_67n, r53_69, r53_70, r53_74, r53_74n, r53_76, r53_79, i32_10, reduceIte, gm_cmp1, gm_cmp3, gm_cmp4, gm_kd_sf, gm_ln_sf, gm_sf_1, gm_sf_2, gm_nw_1, gm_nw_2, gm_k_int, gm_k_ref, gm_k_null, gm_k_u, gm_k_long, and_true, true_and, true_or, or_true, or_false, false_or, and_self, or_self, if_true, if_false, List.map_nil, List.map_cons, List.sum_nil, List.sum_cons, Nat.zero_le, Option.toList_some, Option.toList_none, List.cons_append, List.nil_append, ne_eq, not_false_eq_true, not_true_eq_false, nI_1, nI_add, Value.category, Nat.reduceAdd, Nat.reduceMod, Nat.reduceLeDiff, Nat.reduceLT, Nat.reduceEqDiff, Nat.reducePow, Nat.le_refl, Nat.add_left_cancel_iff, Nat.add_eq_left, Nat.left_eq_add, Nat.add_zero, c2, c3, c4, c5', R.1.1, z3, l6, k3, p8, e4, c7]
      exact no (Or.inr (Or.inr (Or.inr (Or.inr (Or.inr (Or.inl c7))))))
    simp only [r53_0, r53_0n, r53_1, r53_5, r53_5n, r53_7, r53_7n, r53_9n, r53_9, r53_12, r53_12n, r53_14, r53_17, r53_18, r53_21, r53_25, r53_28, r53_29, r53_32, r53_33, r53_35, r53_38, r53_39, r53_40, r53_40n, r53_41, r53_44, r53_47, r53_47n, r53_49, r53_52, r53_53, r53_56, r53_56n, r53_58, r53_62, r53_65, r53_66, r53_67, r53_67n, r53_69, r53_70, r53_74, r53_74n, r53_76, r53_79, i32_10, reduceIte, gm_cmp1, gm_cmp3, gm_cmp4, gm_kd_sf, gm_ln_sf, gm_sf_1, gm_sf_2, gm_nw_1, gm_nw_2, gm_k_int, gm_k_ref, gm_k_null, gm_k_u, gm_k_long, and_true, true_and, true_or, or_true, or_false, false_or, and_self, or_self, if_true, if_false, List.map_nil, List.map_cons, List.sum_nil, List.sum_cons, Nat.zero_le, Option.toList_some, Option.toList_none, List.cons_append, List.nil_append, ne_eq, not_false_eq_true, not_true_eq_false, nI_1, nI_add, Value.category, Nat.reduceAdd, Nat.reduceMod, Nat.reduceLeDiff, Nat.reduceLT, Nat.reduceEqDiff, Nat.reducePow, Nat.le_refl, Nat.add_left_cancel_iff, Nat.add_eq_left, Nat.left_eq_add, Nat.add_zero, c2, c3, c4, c5', R.1.1, z3, l6, k3, p8, e4, c7]
    refine c53_59 (by simp) k3 hd (x_indexOf q) (gx_kn ?_) gx_kx
    cases hix : gs_ix (gs_fs C) nm with
    | some j =>
      have ei : gs_ixi (gs_fs C) nm = nI j := by unfold gs_ixi; rw [hix]
      have := gs_ix_lt hix
      simp only [r53_0, r53_0n, r53_1, r53_5, r53_5n, r53_7, r53_7n, r53_9n, r53_9, r53_12, r53_12n, r53_14, r53_17, r53_18, r53_21, r53_25, r53_28, r53_29, r53_32, r53_33, r53_35, r53_38, r53_39, r53_40, r53_40n, r53_41, r53_44, r53_47, r53_47n, r53_49, r53_52, r53_53, r53_56, r53_56n, r53_58, r53_62, r53_65, r53_66, r53_67, r53_67n, r53_69, r53_70, r53_74, r53_74n, r53_76, r53_79, i32_10, reduceIte, gm_cmp1, gm_cmp3, gm_cmp4, gm_kd_sf, gm_ln_sf, gm_sf_1, gm_sf_2, gm_nw_1, gm_nw_2, gm_k_int, gm_k_ref, gm_k_null, gm_k_u, gm_k_long, and_true, true_and, true_or, or_true, or_false, false_or, and_self, or_self, if_true, if_false, List.map_nil, List.map_cons, List.sum_nil, List.sum_cons, Nat.zero_le, Option.toList_some, Option.toList_none, List.cons_append, List.nil_append, ne_eq, not_false_eq_true, not_true_eq_false, nI_1, nI_add, Value.category, Nat.reduceAdd, Nat.reduceMod, Nat.reduceLeDiff, Nat.reduceLT, Nat.reduceEqDiff, Nat.reducePow, Nat.le_refl, Nat.add_left_cancel_iff, Nat.add_eq_left, Nat.left_eq_add, Nat.add_zero, ei, nI_pos (show j < 2 ^ 31 by omega)]
      exact no (Or.inr (Or.inr (Or.inr (Or.inr (Or.inr (Or.inr (by rw [hix]; rfl)))))))
    | none =>
      have ei : gs_ixi (gs_fs C) nm = -1 := by unfold gs_ixi; rw [hix]
      have m1 : (-1 : Int32) < 0 := by decide
      simp only [r53_0, r53_0n, r53_1, r53_5, r53_5n, r53_7, r53_7n, r53_9n, r53_9, r53_12, r53_12n, r53_14, r53_17, r53_18, r53_21, r53_25, r53_28, r53_29, r53_32, r53_33, r53_35, r53_38, r53_39, r53_40, r53_40n, r53_41, r53_44, r53_47, r53_47n, r53_49, r53_52, r53_53, r53_56, r53_56n, r53_58, r53_62, r53_65, r53_66, r53_67, r53_67n, r53_69, r53_70, r53_74, r53_74n, r53_76, r53_79, i32_10, reduceIte, gm_cmp1, gm_cmp3, gm_cmp4, gm_kd_sf, gm_ln_sf, gm_sf_1, gm_sf_2, gm_nw_1, gm_nw_2, gm_k_int, gm_k_ref, gm_k_null, gm_k_u, gm_k_long, and_true, true_and, true_or, or_true, or_false, false_or, and_self, or_self, if_true, if_false, List.map_nil, List.map_cons, List.sum_nil, List.sum_cons, Nat.zero_le, Option.toList_some, Option.toList_none, List.cons_append, List.nil_append, ne_eq, not_false_eq_true, not_true_eq_false, nI_1, nI_add, Value.category, Nat.reduceAdd, Nat.reduceMod, Nat.reduceLeDiff, Nat.reduceLT, Nat.reduceEqDiff, Nat.reducePow, Nat.le_refl, Nat.add_left_cancel_iff, Nat.add_eq_left, Nat.left_eq_add, Nat.add_zero, ei, m1]
      obtain ⟨h2, h2e⟩ : ∃ h2, h2 = gm_sf (gm_sf (gm_sf h (ca c + 1) (gs_fs C).length (.int nm)) (ca c + 2) (gs_fs C).length (.int t)) (ca c) 6 (.int (nI ((gs_fs C).length + 1))) := ⟨_, rfl⟩
      have ad : gm_Ca E (d - 1) 116 [.ref (ca c), .int nm, .int t] h (gx_v none h2) := by
        show gm_W E (d - 1) 116 0 [.ref (ca c), .int nm, .int t] [] h _
        have l4 : ¬ (4 : Int32) ≤ nI (gs_fs C).length := nI_ge (b := 4) (by omega) (by decide)
        have l4' : (gs_fs C).length < 4 := by omega
        have n1 : ca c ≠ ca c + 1 := by omega
        have n2 : ca c ≠ ca c + 2 := by omega
        simp only [r116_0, r116_0n, r116_1, r116_4, r116_5, r116_8, r116_8n, r116_9, r116_12, r116_12n, r116_13, r116_16, r116_17, r116_18, r116_18n, r116_19, r116_22, r116_22n, r116_23, r116_26, r116_27, r116_28, r116_28n, r116_29, r116_29i, r116_30, r116_33, r116_34, r116_35, r116_38, i32_10, reduceIte, gm_cmp1, gm_cmp3, gm_cmp4, gm_kd_sf, gm_ln_sf, gm_sf_1, gm_sf_2, gm_nw_1, gm_nw_2, gm_k_int, gm_k_ref, gm_k_null, gm_k_u, gm_k_long, and_true, true_and, true_or, or_true, or_false, false_or, and_self, or_self, if_true, if_false, List.map_nil, List.map_cons, List.sum_nil, List.sum_cons, Nat.zero_le, Option.toList_some, Option.toList_none, List.cons_append, List.nil_append, ne_eq, not_false_eq_true, not_true_eq_false, nI_1, nI_add, Value.category, Nat.reduceAdd, Nat.reduceMod, Nat.reduceLeDiff, Nat.reduceLT, Nat.reduceEqDiff, Nat.reducePow, Nat.le_refl, Nat.add_left_cancel_iff, Nat.add_eq_left, Nat.left_eq_add, Nat.add_zero, k3, p8, l4, p6, p7, p12, p13, p14, p15, l4', gm_fv_sfa n1, gm_fv_sfa n2]
        exact ⟨rfl, h2e.symm⟩
      refine c53_71 (by simp) k3 hd ad (gx_kn ?_) gx_kx
      have n10 : ca c + 1 ≠ ca c := by omega
      have n20 : ca c + 2 ≠ ca c := by omega
      have n12 : ca c + 1 ≠ ca c + 2 := by omega
      have n21 : ca c + 2 ≠ ca c + 1 := by omega
      have n01 : ca c ≠ ca c + 1 := by omega
      have n02 : ca c ≠ ca c + 2 := by omega
      have c21 : h2.1 = h.1 ∧ h2.2.1 = h.2.1 := by rw [h2e]; simp only [gm_sf_1, gm_sf_2, and_self]
      have k23 : gm_kd h2 (ca c) = 3 := by rw [h2e]; simp only [gm_kd_sf]; exact k3
      have f0 : ∀ j, j ≠ 6 → gm_fv h2 (ca c) j = gm_fv h (ca c) j := fun j hj => by rw [h2e, gm_fv_sfj hj, gm_fv_sfa n02, gm_fv_sfa n01]
      have f6 : gm_fv h2 (ca c) 6 = .int (nI ((gs_fs C).length + 1)) := by rw [h2e, gm_fv_sf (by simp only [gm_ln_sf, lc]; decide)]
      have X2 : gx_X E h2 x ca (gs_def1 K c (C.1, C.2.1, C.2.2.1, gs_fs C ++ [(nm, t)], C.2.2.2.2)) s lf := by
        have cl2 : gx_cl h2 x ca (fun _ => False) c (C.1, C.2.1, C.2.2.1, gs_fs C ++ [(nm, t)], C.2.2.2.2) (ca c) := by
          have hle : h.1 ≤ h2.1 := by omega
          refine ⟨⟨p0.1.tr hle, p0.2.1.tr hle, p0.2.2.tr hle⟩, k23, ?_, ?_, ?_, ?_, ?_, ?_, ?_, ?_, ?_, ?_, ?_, ?_, ?_, ?_, fun j q hj => ?_⟩
          · rw [f0 0 (by decide)]; exact p2
          · rw [f0 1 (by decide)]; exact p3
          · rw [f0 2 (by decide)]; exact p4
          · rw [f0 3 (by decide)]; exact p5
          · rw [f0 4 (by decide)]; exact p6
          · rw [f0 5 (by decide)]; exact p7
          · rw [f6]; simp [gs_fs]
          · rw [f0 7 (by decide)]; exact p9
          · rw [f0 8 (by decide)]; exact p10
          · show (gs_fs C ++ [(nm, t)]).length ≤ 4
            simp
            omega
          · rw [h2e]; simp only [gm_kd_sf]; exact p12
          · rw [h2e]; simp only [gm_ln_sf]; exact p13
          · rw [h2e]; simp only [gm_kd_sf]; exact p14
          · rw [h2e]; simp only [gm_ln_sf]; exact p15
          · have hj : (gs_fs C ++ [(nm, t)])[j]? = some q := hj
            rw [h2e, gm_fv_sfa n10, gm_fv_sfa n12, gm_fv_sfa n20]
            by_cases hjl : j < (gs_fs C).length
            · rw [List.getElem?_append_left hjl] at hj
              rw [gm_fv_sfj (by omega), gm_fv_sfj (by omega), gm_fv_sfj (by omega)]
              exact p16 j q hj
            · have hj2 := (List.getElem?_eq_some_iff.mp hj).1
              simp at hj2
              have hj3 : j = (gs_fs C).length := by omega
              subst hj3
              simp at hj
              subst hj
              exact ⟨gm_fv_sf (by omega), gm_fv_sf (by rw [gm_ln_sf]; omega)⟩
        have o1 := p0.1.1
        have o2 := p0.2.1.1
        have o3 := p0.2.2.1
        refine ⟨R.cls hC c21.1 (fun a a1 a2 a3 => by rw [h2e, gm_rd_sfn a1, gm_rd_sfn a3, gm_rd_sfn a2]) cl2 rfl, ?_⟩
        rw [h2e, gm_fv_sfa (by omega), gm_fv_sfa (by omega), gm_fv_sfa (by omega)]
        exact X.2
      simp only [r53_0, r53_0n, r53_1, r53_5, r53_5n, r53_7, r53_7n, r53_9n, r53_9, r53_12, r53_12n, r53_14, r53_17, r53_18, r53_21, r53_25, r53_28, r53_29, r53_32, r53_33, r53_35, r53_38, r53_39, r53_40, r53_40n, r53_41, r53_44, r53_47, r53_47n, r53_49, r53_52, r53_53, r53_56, r53_56n, r53_58, r53_62, r53_65, r53_66, r53_67, r53_67n, r53_69, r53_70, r53_74, r53_74n, r53_76, r53_79, i32_10, reduceIte, gm_cmp1, gm_cmp3, gm_cmp4, gm_kd_sf, gm_ln_sf, gm_sf_1, gm_sf_2, gm_nw_1, gm_nw_2, gm_k_int, gm_k_ref, gm_k_null, gm_k_u, gm_k_long, and_true, true_and, true_or, or_true, or_false, false_or, and_self, or_self, if_true, if_false, List.map_nil, List.map_cons, List.sum_nil, List.sum_cons, Nat.zero_le, Option.toList_some, Option.toList_none, List.cons_append, List.nil_append, ne_eq, not_false_eq_true, not_true_eq_false, nI_1, nI_add, Value.category, Nat.reduceAdd, Nat.reduceMod, Nat.reduceLeDiff, Nat.reduceLT, Nat.reduceEqDiff, Nat.reducePow, Nat.le_refl, Nat.add_left_cancel_iff, Nat.add_eq_left, Nat.left_eq_add, Nat.add_zero, k23, f6]
      rw [hQ]
      have : ¬ (gs_kind C = 3 ∨ (nm < 0 ∨ 26 ≤ nm) ∨ t < 0 ∨ 7 < t ∨ gs_hp s ≠ [] ∨ (gs_fs C).length = 4 ∨ (gs_ix (gs_fs C) nm).isSome = true) := by
        rintro (z | (z | z) | z | z | z | z | z)
        · exact c1 z
        · exact c2 z
        · exact c3 z
        · exact c4 z
        · exact c5 z
        · exact c6 z
        · exact c7 z
        · rw [hix] at z; cases z
      simp only [if_neg this]
      exact ⟨trivial, X2, c21⟩
end Z9
/-! THE CLASS, 27: passBlock: nothing but place changes. -/
section ZA
variable {E : Nat → Value} {d x b : Nat} {h h' : gm_H} {ca ca' : Nat → Nat} {K K' : gs_K} {F G : Nat → Prop} {s : gs_S} {lf : Int32}
def gx_Z {α : Type} (E : Nat → Value) (h : gm_H) (x : Nat) (ca : Nat → Nat) (K : gs_K) (F : Nat → Prop) (s : gs_S) (val : α → Option Value → Prop) (res : Except Int32 (α × gs_S)) : gm_R → gm_H → Prop
  | .inl v, h' => ∃ (a : α) (p : Nat), res = .ok (a, gs_p p s) ∧ val a v ∧ gx_R E h' x ca K F (gs_p p s) ∧ gm_fv h' x 11 = gm_fv h x 11 ∧ gx_nal h h'
  | .inr _, h' => ∃ (f : Int32) (p : Nat), res = .error f ∧ gm_fv h' x 12 = .int f ∧ gx_R E h' x ca K F (gs_p p s) ∧ gm_fv h' x 11 = gm_fv h x 11 ∧ h'.1 = h.1 + 1 ∧ h'.2.1 = h.2.1 + 6
theorem z_fail {α : Type} {val : α → Option Value → Prop} {f : Int32} (R : gx_R E h x ca K F s) : gm_Ca E d 66 [.ref x, .int f] h (gx_Z E h x ca K F s val (.error f)) := by
  show gm_W E d 66 0 [.ref x, .int f] [] h _
  simp only [r66_0, r66_0n, r66_1, r66_2, r66_5, r66_8, r66_8i, i32_10, reduceIte, gm_cmp1, gm_cmp3, gm_cmp4, gm_kd_sf, gm_ln_sf, gm_sf_1, gm_sf_2, gm_nw_1, gm_nw_2, gm_k_int, gm_k_ref, gm_k_null, gm_k_u, gm_k_long, and_true, true_and, true_or, or_true, or_false, false_or, and_self, or_self, if_true, if_false, List.map_nil, List.map_cons, List.sum_nil, List.sum_cons, Nat.zero_le, Option.toList_some, Option.toList_none, List.cons_append, List.nil_append, ne_eq, not_false_eq_true, not_true_eq_false, nI_1, nI_add, Value.category, Nat.reduceAdd, Nat.reduceMod, Nat.reduceLeDiff, Nat.reduceLT, Nat.reduceEqDiff, Nat.reducePow, Nat.le_refl, Nat.add_left_cancel_iff, Nat.add_eq_left, Nat.left_eq_add, Nat.add_zero, R.1.1]
  have ht := R.top
  refine ⟨f, gs_pl s, rfl, ?_, ?_, ?_, ?_, ?_⟩
  · rw [gm_fv_nw (by rw [gm_sf_1]; omega)]
    exact gm_fv_sf (by rw [R.len.1]; decide)
  · exact R.raise.new
  · rw [gm_fv_nw (by rw [gm_sf_1]; omega), gm_fv_sfj (by decide)]
  · simp only [gm_nw_1, gm_sf_1]
  · simp only [gm_nw_2, gm_sf_2]
theorem gx_zn {α : Type} {val : α → Option Value → Prop} {f : Int32} {P : Option Value → gm_H → Prop} : ∀ (v9 : Option Value) (h9 : gm_H), gx_Z E h x ca K F s val (.error f) (.inl v9) h9 → P v9 h9 := by
  rintro v9 h9 ⟨_, _, e, -⟩
  cases e
theorem gx_Z.frm {α : Type} {val : α → Option Value → Prop} {res : Except Int32 (α × gs_S)} {p : Nat} {h1 : gm_H} {r : gm_R} (w : gx_Z E h1 x ca K F (gs_p p s) val res r h') (f : gm_fv h1 x 11 = gm_fv h x 11) (n : gx_nal h h1) : gx_Z E h x ca K F s val res r h' := by
  cases r with
  | inl v =>
    obtain ⟨a, q, e, v1, R, f1, n1⟩ := w
    exact ⟨a, q, e, v1, R, f1.trans f, n.trans n1⟩
  | inr v =>
    obtain ⟨a, q, e, v1, R, f1, n1, n2⟩ := w
    exact ⟨a, q, e, v1, R, f1.trans f, by rw [n1, n.1], by rw [n2, n.2]⟩
theorem gx_Z.ber {α β : Type} {va1 : α → Option Value → Prop} {val : β → Option Value → Prop} {m : gs_M α} {f : α → gs_M β} {a : Nat} (w : gx_Z E h x ca K F s va1 (m s) (.inr a) h') : gx_Z E h x ca K F s val (gs_b m f s) (.inr a) h' := by
  obtain ⟨c, p, e, q⟩ := w
  exact ⟨c, p, gs_b_er e, q⟩
theorem z_nextNumber {z : Nat} (hd : 1 ≤ d) (R : gx_R E h x ca K F s) (hz : z ≤ 8) : gm_Ca E d 68 [.ref x, .int (nI z)] h (gx_Z E h x ca K F s (fun a v => v = some (.long a)) (gs_nxt K z s)) := by
  show gm_W E d 68 0 [.ref x, .int (nI z), gm_u, gm_u] [] h _
  obtain ⟨A0, -, A5, -, -, -, -, A2, A3, -⟩ := R.1
  obtain ⟨-, -, -, -, B6, B7, B8⟩ := R.2.1
  obtain ⟨z1, z2, z3, z4, z5, z6, z7, z8, z9⟩ := R.2.2.2.1
  by_cases hc : gs_n K - gs_pl s < z
  · simp only [r68_0, r68_0n, r68_1, r68_4, r68_4n, r68_5, r68_8, r68_9, r68_10, r68_13, r68_13n, r68_14, r68_19, r68_20, r68_21, r68_21n, r68_22, r68_22n, r68_23, r68_26, r68_30, r68_31, r68_31n, r68_32, r68_32i, r68_33, r68_36, r68_37, r68_38, r68_41, r68_42, i32_10, reduceIte, gm_cmp1, gm_cmp3, gm_cmp4, gm_kd_sf, gm_ln_sf, gm_sf_1, gm_sf_2, gm_nw_1, gm_nw_2, gm_k_int, gm_k_ref, gm_k_null, gm_k_u, gm_k_long, and_true, true_and, true_or, or_true, or_false, false_or, and_self, or_self, if_true, if_false, List.map_nil, List.map_cons, List.sum_nil, List.sum_cons, Nat.zero_le, Option.toList_some, Option.toList_none, List.cons_append, List.nil_append, ne_eq, not_false_eq_true, not_true_eq_false, nI_1, nI_add, Value.category, Nat.reduceAdd, Nat.reduceMod, Nat.reduceLeDiff, Nat.reduceLT, Nat.reduceEqDiff, Nat.reducePow, Nat.le_refl, Nat.add_left_cancel_iff, Nat.add_eq_left, Nat.left_eq_add, Nat.add_zero, A0, B6, z1, nI_sub z2, nI_leF hc (show z < 2 ^ 31 by omega)]
    have e : gs_nxt K z s = .error (-3) := by unfold gs_nxt; rw [if_pos hc]
    rw [e]
    exact c68_16 (by simp) A0 hd (z_fail R) gx_zn (fun _ _ q => q)
  · simp only [r68_0, r68_0n, r68_1, r68_4, r68_4n, r68_5, r68_8, r68_9, r68_10, r68_13, r68_13n, r68_14, r68_19, r68_20, r68_21, r68_21n, r68_22, r68_22n, r68_23, r68_26, r68_30, r68_31, r68_31n, r68_32, r68_32i, r68_33, r68_36, r68_37, r68_38, r68_41, r68_42, i32_10, reduceIte, gm_cmp1, gm_cmp3, gm_cmp4, gm_kd_sf, gm_ln_sf, gm_sf_1, gm_sf_2, gm_nw_1, gm_nw_2, gm_k_int, gm_k_ref, gm_k_null, gm_k_u, gm_k_long, and_true, true_and, true_or, or_true, or_false, false_or, and_self, or_self, if_true, if_false, List.map_nil, List.map_cons, List.sum_nil, List.sum_cons, Nat.zero_le, Option.toList_some, Option.toList_none, List.cons_append, List.nil_append, ne_eq, not_false_eq_true, not_true_eq_false, nI_1, nI_add, Value.category, Nat.reduceAdd, Nat.reduceMod, Nat.reduceLeDiff, Nat.reduceLT, Nat.reduceEqDiff, Nat.reducePow, Nat.le_refl, Nat.add_left_cancel_iff, Nat.add_eq_left, Nat.left_eq_add, Nat.add_zero, A0, B6, z1, nI_sub z2, nI_leT (show z ≤ gs_n K - gs_pl s by omega) (show gs_n K - gs_pl s < 2 ^ 31 by omega)]
    refine c68_27 (by simp [Value.category]) A0 hd (x_numberAt R (by omega)) (gx_kn ?_) gx_kx
    simp only [r68_0, r68_0n, r68_1, r68_4, r68_4n, r68_5, r68_8, r68_9, r68_10, r68_13, r68_13n, r68_14, r68_19, r68_20, r68_21, r68_21n, r68_22, r68_22n, r68_23, r68_26, r68_30, r68_31, r68_31n, r68_32, r68_32i, r68_33, r68_36, r68_37, r68_38, r68_41, r68_42, i32_10, reduceIte, gm_cmp1, gm_cmp3, gm_cmp4, gm_kd_sf, gm_ln_sf, gm_sf_1, gm_sf_2, gm_nw_1, gm_nw_2, gm_k_int, gm_k_ref, gm_k_null, gm_k_u, gm_k_long, and_true, true_and, true_or, or_true, or_false, false_or, and_self, or_self, if_true, if_false, List.map_nil, List.map_cons, List.sum_nil, List.sum_cons, Nat.zero_le, Option.toList_some, Option.toList_none, List.cons_append, List.nil_append, ne_eq, not_false_eq_true, not_true_eq_false, nI_1, nI_add, Value.category, Nat.reduceAdd, Nat.reduceMod, Nat.reduceLeDiff, Nat.reduceLT, Nat.reduceEqDiff, Nat.reducePow, Nat.le_refl, Nat.add_left_cancel_iff, Nat.add_eq_left, Nat.left_eq_add, Nat.add_zero, A0, z1]
    exact ⟨_, gs_pl s + z, by unfold gs_nxt; rw [if_neg hc], rfl, R.place (by omega), gm_fv_sfj (by decide), gx_nal.refl.sf⟩
theorem z_nextByte (hd : 2 ≤ d) (R : gx_R E h x ca K F s) : gm_Ca E d 69 [.ref x] h (gx_Z E h x ca K F s (fun a v => v = some (.int a)) (gs_u1 K s)) := by
  show gm_W E d 69 0 [.ref x] [] h _
  simp only [r69_0, r69_0n, r69_1, r69_5, r69_6, i32_10, reduceIte, gm_cmp1, gm_cmp3, gm_cmp4, gm_kd_sf, gm_ln_sf, gm_sf_1, gm_sf_2, gm_nw_1, gm_nw_2, gm_k_int, gm_k_ref, gm_k_null, gm_k_u, gm_k_long, and_true, true_and, true_or, or_true, or_false, false_or, and_self, or_self, if_true, if_false, List.map_nil, List.map_cons, List.sum_nil, List.sum_cons, Nat.zero_le, Option.toList_some, Option.toList_none, List.cons_append, List.nil_append, ne_eq, not_false_eq_true, not_true_eq_false, nI_1, nI_add, Value.category, Nat.reduceAdd, Nat.reduceMod, Nat.reduceLeDiff, Nat.reduceLT, Nat.reduceEqDiff, Nat.reducePow, Nat.le_refl, Nat.add_left_cancel_iff, Nat.add_eq_left, Nat.left_eq_add, Nat.add_zero]
  refine c69_2 (by simp) R.1.1 (by omega) (z_nextNumber (z := 1) (by omega) R (by decide)) (fun v h1 q => ?_) (fun _ _ q => q.ber)
  obtain ⟨a, p, e, rfl, q⟩ := q
  simp only [r69_0, r69_0n, r69_1, r69_5, r69_6, i32_10, reduceIte, gm_cmp1, gm_cmp3, gm_cmp4, gm_kd_sf, gm_ln_sf, gm_sf_1, gm_sf_2, gm_nw_1, gm_nw_2, gm_k_int, gm_k_ref, gm_k_null, gm_k_u, gm_k_long, and_true, true_and, true_or, or_true, or_false, false_or, and_self, or_self, if_true, if_false, List.map_nil, List.map_cons, List.sum_nil, List.sum_cons, Nat.zero_le, Option.toList_some, Option.toList_none, List.cons_append, List.nil_append, ne_eq, not_false_eq_true, not_true_eq_false, nI_1, nI_add, Value.category, Nat.reduceAdd, Nat.reduceMod, Nat.reduceLeDiff, Nat.reduceLT, Nat.reduceEqDiff, Nat.reducePow, Nat.le_refl, Nat.add_left_cancel_iff, Nat.add_eq_left, Nat.left_eq_add, Nat.add_zero]
  exact ⟨a.toInt32, p, by unfold gs_u1; rw [gs_b_ok e]; rfl, rfl, q⟩
theorem z_nextInt (hd : 2 ≤ d) (R : gx_R E h x ca K F s) : gm_Ca E d 70 [.ref x] h (gx_Z E h x ca K F s (fun a v => v = some (.int a)) (gs_u4 K s)) := by
  show gm_W E d 70 0 [.ref x] [] h _
  simp only [r70_0, r70_0n, r70_1, r70_5, r70_6, i32_10, reduceIte, gm_cmp1, gm_cmp3, gm_cmp4, gm_kd_sf, gm_ln_sf, gm_sf_1, gm_sf_2, gm_nw_1, gm_nw_2, gm_k_int, gm_k_ref, gm_k_null, gm_k_u, gm_k_long, and_true, true_and, true_or, or_true, or_false, false_or, and_self, or_self, if_true, if_false, List.map_nil, List.map_cons, List.sum_nil, List.sum_cons, Nat.zero_le, Option.toList_some, Option.toList_none, List.cons_append, List.nil_append, ne_eq, not_false_eq_true, not_true_eq_false, nI_1, nI_add, Value.category, Nat.reduceAdd, Nat.reduceMod, Nat.reduceLeDiff, Nat.reduceLT, Nat.reduceEqDiff, Nat.reducePow, Nat.le_refl, Nat.add_left_cancel_iff, Nat.add_eq_left, Nat.left_eq_add, Nat.add_zero]
  refine c70_2 (by simp) R.1.1 (by omega) (z_nextNumber (z := 4) (by omega) R (by decide)) (fun v h1 q => ?_) (fun _ _ q => q.ber)
  obtain ⟨a, p, e, rfl, q⟩ := q
  simp only [r70_0, r70_0n, r70_1, r70_5, r70_6, i32_10, reduceIte, gm_cmp1, gm_cmp3, gm_cmp4, gm_kd_sf, gm_ln_sf, gm_sf_1, gm_sf_2, gm_nw_1, gm_nw_2, gm_k_int, gm_k_ref, gm_k_null, gm_k_u, gm_k_long, and_true, true_and, true_or, or_true, or_false, false_or, and_self, or_self, if_true, if_false, List.map_nil, List.map_cons, List.sum_nil, List.sum_cons, Nat.zero_le, Option.toList_some, Option.toList_none, List.cons_append, List.nil_append, ne_eq, not_false_eq_true, not_true_eq_false, nI_1, nI_add, Value.category, Nat.reduceAdd, Nat.reduceMod, Nat.reduceLeDiff, Nat.reduceLT, Nat.reduceEqDiff, Nat.reducePow, Nat.le_refl, Nat.add_left_cancel_iff, Nat.add_eq_left, Nat.left_eq_add, Nat.add_zero]
  exact ⟨a.toInt32, p, by unfold gs_u4; rw [gs_b_ok e]; rfl, rfl, q⟩
theorem z_skipBlock (hd : 3 ≤ d) (R : gx_R E h x ca K F s) : gm_Ca E d 75 [.ref x] h (gx_Z E h x ca K F s (fun a v => v = some (.int a)) (gs_blk K s)) := by
  have tail : ∀ (n : Int32) (s : gs_S) (h : gm_H), gx_R E h x ca K F s → gm_W E d 75 20 [.ref x, gm_u] [.int n] h (gx_Z E h x ca K F s (fun a v => v = some (.int a)) (if n < 0 then .error (-4) else if gs_n K - gs_pl s < n.toNatClampNeg then .error (-3) else .ok (n, gs_p (gs_pl s + n.toNatClampNeg) s))) := by
    intro n s h R
    obtain ⟨A0, -, A5, -, -, -, -, A2, A3, -⟩ := R.1
    obtain ⟨-, -, -, -, B6, B7, B8⟩ := R.2.1
    obtain ⟨z1, z2, z3, z4, z5, z6, z7, z8, z9⟩ := R.2.2.2.1
    by_cases h1 : n < 0
    · have h2 : ¬ 0 ≤ n := Int32.not_le.mpr h1
      simp only [r75_0, r75_0n, r75_4, r75_6, r75_9, r75_9n, r75_13, r75_16, r75_16n, r75_20, r75_21, r75_22, r75_25, r75_25n, r75_26, r75_31, r75_32, r75_33, r75_33n, r75_34, r75_37, r75_37n, r75_38, r75_41, r75_42, r75_45, r75_45n, r75_46, r75_51, r75_52, r75_52n, r75_53, r75_53i, r75_54, r75_57, r75_58, r75_59, r75_62, r75_63, i32_10, reduceIte, gm_cmp1, gm_cmp3, gm_cmp4, gm_kd_sf, gm_ln_sf, gm_sf_1, gm_sf_2, gm_nw_1, gm_nw_2, gm_k_int, gm_k_ref, gm_k_null, gm_k_u, gm_k_long, and_true, true_and, true_or, or_true, or_false, false_or, and_self, or_self, if_true, if_false, List.map_nil, List.map_cons, List.sum_nil, List.sum_cons, Nat.zero_le, Option.toList_some, Option.toList_none, List.cons_append, List.nil_append, ne_eq, not_false_eq_true, not_true_eq_false, nI_1, nI_add, Value.category, Nat.reduceAdd, Nat.reduceMod, Nat.reduceLeDiff, Nat.reduceLT, Nat.reduceEqDiff, Nat.reducePow, Nat.le_refl, Nat.add_left_cancel_iff, Nat.add_eq_left, Nat.left_eq_add, Nat.add_zero, h1, h2]
      exact c75_28 (by simp) A0 (by omega) (z_fail R) gx_zn (fun _ _ q => q)
    · obtain ⟨m, hm, rfl⟩ := nI_of h1
      have h2 : 0 ≤ nI m := nI_pos' hm
      rw [nI_clamp hm]
      by_cases h3 : gs_n K - gs_pl s < m
      · simp only [r75_0, r75_0n, r75_4, r75_6, r75_9, r75_9n, r75_13, r75_16, r75_16n, r75_20, r75_21, r75_22, r75_25, r75_25n, r75_26, r75_31, r75_32, r75_33, r75_33n, r75_34, r75_37, r75_37n, r75_38, r75_41, r75_42, r75_45, r75_45n, r75_46, r75_51, r75_52, r75_52n, r75_53, r75_53i, r75_54, r75_57, r75_58, r75_59, r75_62, r75_63, i32_10, reduceIte, gm_cmp1, gm_cmp3, gm_cmp4, gm_kd_sf, gm_ln_sf, gm_sf_1, gm_sf_2, gm_nw_1, gm_nw_2, gm_k_int, gm_k_ref, gm_k_null, gm_k_u, gm_k_long, and_true, true_and, true_or, or_true, or_false, false_or, and_self, or_self, if_true, if_false, List.map_nil, List.map_cons, List.sum_nil, List.sum_cons, Nat.zero_le, Option.toList_some, Option.toList_none, List.cons_append, List.nil_append, ne_eq, not_false_eq_true, not_true_eq_false, nI_1, nI_add, Value.category, Nat.reduceAdd, Nat.reduceMod, Nat.reduceLeDiff, Nat.reduceLT, Nat.reduceEqDiff, Nat.reducePow, Nat.le_refl, Nat.add_left_cancel_iff, Nat.add_eq_left, Nat.left_eq_add, Nat.add_zero, h1, h2, A0, B6, z1, nI_sub z2, nI_leF h3 hm, h3]
        exact c75_48 (by simp) A0 (by omega) (z_fail R) gx_zn (fun _ _ q => q)
      · simp only [r75_0, r75_0n, r75_4, r75_6, r75_9, r75_9n, r75_13, r75_16, r75_16n, r75_20, r75_21, r75_22, r75_25, r75_25n, r75_26, r75_31, r75_32, r75_33, r75_33n, r75_34, r75_37, r75_37n, r75_38, r75_41, r75_42, r75_45, r75_45n, r75_46, r75_51, r75_52, r75_52n, r75_53, r75_53i, r75_54, r75_57, r75_58, r75_59, r75_62, r75_63, i32_10, reduceIte, gm_cmp1, gm_cmp3, gm_cmp4, gm_kd_sf, gm_ln_sf, gm_sf_1, gm_sf_2, gm_nw_1, gm_nw_2, gm_k_int, gm_k_ref, gm_k_null, gm_k_u, gm_k_long, and_true, true_and, true_or, or_true, or_false, false_or, and_self, or_self, if_true, if_false, List.map_nil, List.map_cons, List.sum_nil, List.sum_cons, Nat.zero_le, Option.toList_some, Option.toList_none, List.cons_append, List.nil_append, ne_eq, not_false_eq_true, not_true_eq_false, nI_1, nI_add, Value.category, Nat.reduceAdd, Nat.reduceMod, Nat.reduceLeDiff, Nat.reduceLT, Nat.reduceEqDiff, Nat.reducePow, Nat.le_refl, Nat.add_left_cancel_iff, Nat.add_eq_left, Nat.left_eq_add, Nat.add_zero, h1, h2, A0, B6, z1, nI_sub z2, nI_leT (show m ≤ gs_n K - gs_pl s by omega) (show gs_n K - gs_pl s < 2 ^ 31 by omega), h3]
        exact ⟨nI m, gs_pl s + m, rfl, rfl, R.place (by omega), gm_fv_sfj (by decide), gx_nal.refl.sf⟩
  show gm_W E d 75 0 [.ref x, gm_u] [] h _
  simp only [r75_0, r75_0n, r75_4, r75_6, r75_9, r75_9n, r75_13, r75_16, r75_16n, r75_20, r75_21, r75_22, r75_25, r75_25n, r75_26, r75_31, r75_32, r75_33, r75_33n, r75_34, r75_37, r75_37n, r75_38, r75_41, r75_42, r75_45, r75_45n, r75_46, r75_51, r75_52, r75_52n, r75_53, r75_53i, r75_54, r75_57, r75_58, r75_59, r75_62, r75_63, i32_10, reduceIte, gm_cmp1, gm_cmp3, gm_cmp4, gm_kd_sf, gm_ln_sf, gm_sf_1, gm_sf_2, gm_nw_1, gm_nw_2, gm_k_int, gm_k_ref, gm_k_null, gm_k_u, gm_k_long, and_true, true_and, true_or, or_true, or_false, false_or, and_self, or_self, if_true, if_false, List.map_nil, List.map_cons, List.sum_nil, List.sum_cons, Nat.zero_le, Option.toList_some, Option.toList_none, List.cons_append, List.nil_append, ne_eq, not_false_eq_true, not_true_eq_false, nI_1, nI_add, Value.category, Nat.reduceAdd, Nat.reduceMod, Nat.reduceLeDiff, Nat.reduceLT, Nat.reduceEqDiff, Nat.reducePow, Nat.le_refl, Nat.add_left_cancel_iff, Nat.add_eq_left, Nat.left_eq_add, Nat.add_zero]
  unfold gs_blk
  refine c75_1 (by simp) R.1.1 (by omega) (z_nextByte (by omega) R) (fun v h1 q => ?_) (fun _ _ q => q.ber)
  obtain ⟨t, p, e, rfl, R1, f1, n1⟩ := q
  rw [gs_b_ok e]
  by_cases ht : t = 119
  · simp only [r75_0, r75_0n, r75_4, r75_6, r75_9, r75_9n, r75_13, r75_16, r75_16n, r75_20, r75_21, r75_22, r75_25, r75_25n, r75_26, r75_31, r75_32, r75_33, r75_33n, r75_34, r75_37, r75_37n, r75_38, r75_41, r75_42, r75_45, r75_45n, r75_46, r75_51, r75_52, r75_52n, r75_53, r75_53i, r75_54, r75_57, r75_58, r75_59, r75_62, r75_63, i32_10, reduceIte, gm_cmp1, gm_cmp3, gm_cmp4, gm_kd_sf, gm_ln_sf, gm_sf_1, gm_sf_2, gm_nw_1, gm_nw_2, gm_k_int, gm_k_ref, gm_k_null, gm_k_u, gm_k_long, and_true, true_and, true_or, or_true, or_false, false_or, and_self, or_self, if_true, if_false, List.map_nil, List.map_cons, List.sum_nil, List.sum_cons, Nat.zero_le, Option.toList_some, Option.toList_none, List.cons_append, List.nil_append, ne_eq, not_false_eq_true, not_true_eq_false, nI_1, nI_add, Value.category, Nat.reduceAdd, Nat.reduceMod, Nat.reduceLeDiff, Nat.reduceLT, Nat.reduceEqDiff, Nat.reducePow, Nat.le_refl, Nat.add_left_cancel_iff, Nat.add_eq_left, Nat.left_eq_add, Nat.add_zero, ht]
    refine c75_10 (by simp) R1.1.1 (by omega) (z_nextByte (by omega) R1) (fun v h2 q => ?_) (fun _ _ q => q.ber.frm f1 n1)
    obtain ⟨n, p2, e2, rfl, R2, f2, n2⟩ := q
    rw [gs_b_ok e2]
    simp only [r75_13, i32_10, reduceIte, gm_cmp1, gm_cmp3, gm_cmp4, gm_kd_sf, gm_ln_sf, gm_sf_1, gm_sf_2, gm_nw_1, gm_nw_2, gm_k_int, gm_k_ref, gm_k_null, gm_k_u, gm_k_long, and_true, true_and, true_or, or_true, or_false, false_or, and_self, or_self, if_true, if_false, List.map_nil, List.map_cons, List.sum_nil, List.sum_cons, Nat.zero_le, Option.toList_some, Option.toList_none, List.cons_append, List.nil_append, ne_eq, not_false_eq_true, not_true_eq_false, nI_1, nI_add, Value.category, Nat.reduceAdd, Nat.reduceMod, Nat.reduceLeDiff, Nat.reduceLT, Nat.reduceEqDiff, Nat.reducePow, Nat.le_refl, Nat.add_left_cancel_iff, Nat.add_eq_left, Nat.left_eq_add, Nat.add_zero]
    exact gm_W.mono (tail n _ h2 R2) (fun r h' w => w.frm (p := p2) (f2.trans f1) (n1.trans n2))
  · simp only [r75_0, r75_0n, r75_4, r75_6, r75_9, r75_9n, r75_13, r75_16, r75_16n, r75_20, r75_21, r75_22, r75_25, r75_25n, r75_26, r75_31, r75_32, r75_33, r75_33n, r75_34, r75_37, r75_37n, r75_38, r75_41, r75_42, r75_45, r75_45n, r75_46, r75_51, r75_52, r75_52n, r75_53, r75_53i, r75_54, r75_57, r75_58, r75_59, r75_62, r75_63, i32_10, reduceIte, gm_cmp1, gm_cmp3, gm_cmp4, gm_kd_sf, gm_ln_sf, gm_sf_1, gm_sf_2, gm_nw_1, gm_nw_2, gm_k_int, gm_k_ref, gm_k_null, gm_k_u, gm_k_long, and_true, true_and, true_or, or_true, or_false, false_or, and_self, or_self, if_true, if_false, List.map_nil, List.map_cons, List.sum_nil, List.sum_cons, Nat.zero_le, Option.toList_some, Option.toList_none, List.cons_append, List.nil_append, ne_eq, not_false_eq_true, not_true_eq_false, nI_1, nI_add, Value.category, Nat.reduceAdd, Nat.reduceMod, Nat.reduceLeDiff, Nat.reduceLT, Nat.reduceEqDiff, Nat.reducePow, Nat.le_refl, Nat.add_left_cancel_iff, Nat.add_eq_left, Nat.left_eq_add, Nat.add_zero, ht]
    refine c75_17 (by simp) R1.1.1 (by omega) (z_nextInt (by omega) R1) (fun v h2 q => ?_) (fun _ _ q => q.ber.frm f1 n1)
    obtain ⟨n, p2, e2, rfl, R2, f2, n2⟩ := q
    rw [gs_b_ok e2]
    simp only [i32_10, reduceIte, gm_cmp1, gm_cmp3, gm_cmp4, gm_kd_sf, gm_ln_sf, gm_sf_1, gm_sf_2, gm_nw_1, gm_nw_2, gm_k_int, gm_k_ref, gm_k_null, gm_k_u, gm_k_long, and_true, true_and, true_or, or_true, or_false, false_or, and_self, or_self, if_true, if_false, List.map_nil, List.map_cons, List.sum_nil, List.sum_cons, Nat.zero_le, Option.toList_some, Option.toList_none, List.cons_append, List.nil_append, ne_eq, not_false_eq_true, not_true_eq_false, nI_1, nI_add, Value.category, Nat.reduceAdd, Nat.reduceMod, Nat.reduceLeDiff, Nat.reduceLT, Nat.reduceEqDiff, Nat.reducePow, Nat.le_refl, Nat.add_left_cancel_iff, Nat.add_eq_left, Nat.left_eq_add, Nat.add_zero]
    exact gm_W.mono (tail n _ h2 R2) (fun r h' w => w.frm (p := p2) (f2.trans f1) (n1.trans n2))
def gs_pass (K : gs_K) (s : gs_S) (lf : Int32) : Int32 × gs_S × Int32 := if lf ≠ 0 then (lf, s, lf) else if gs_n K ≤ gs_pl s ∨ gs_isB (gs_sb K (gs_pl s)) = false then (-1, s, 0) else match gs_blk K s with
  | .ok q => (q.1, q.2, 0)
  | .error f => (f, s, f)
theorem x_passBlock (hd : 4 ≤ d) (X : gx_X E h x ca K s lf) : gm_Ca E d 58 [.ref x] h (fun r h' => r = .inl (some (.int (gs_pass K s lf).1)) ∧ gx_X E h' x ca K (gs_pass K s lf).2.1 (gs_pass K s lf).2.2 ∧ h'.1 ≤ h.1 + 1 ∧ h'.2.1 ≤ h.2.1 + 6) := by
  obtain ⟨R, f11⟩ := X
  obtain ⟨A0, -, A5, -, -, -, -, A2, A2l, -⟩ := R.1
  obtain ⟨-, -, -, -, B6, B7, B8⟩ := R.2.1
  obtain ⟨z1, z2, z3, z4, z5, z6, z7, z8, z9⟩ := R.2.2.2.1
  show gm_W E d 58 0 [.ref x, gm_u, gm_u] [] h _
  unfold gs_pass
  by_cases h0 : lf = 0
  · subst h0
    rw [if_neg (show ¬ (0 : Int32) ≠ 0 from fun z => z rfl)]
    by_cases hp : gs_n K ≤ gs_pl s
    · rw [if_pos (Or.inl hp)]
      simp only [r58_0, r58_0n, r58_1, r58_4, r58_7, r58_7n, r58_8, r58_11, r58_12, r58_12n, r58_13, r58_16, r58_16n, r58_17, r58_20, r58_23, r58_23n, r58_24, r58_27, r58_27n, r58_28, r58_31, r58_35, r58_38, r58_39, r58_40, r58_40n, r58_41, r58_44, r58_45, r58_45n, r58_49, r58_50, r58_50n, r58_51, r58_51n, r58_52, r58_53, r58_56, r58_56n, r58_57, r58_57n, r58_58, r58_61, r58_64, r58_64n, r58_65, r58_68, i32_10, reduceIte, gm_cmp1, gm_cmp3, gm_cmp4, gm_kd_sf, gm_ln_sf, gm_sf_1, gm_sf_2, gm_nw_1, gm_nw_2, gm_k_int, gm_k_ref, gm_k_null, gm_k_u, gm_k_long, and_true, true_and, true_or, or_true, or_false, false_or, and_self, or_self, if_true, if_false, List.map_nil, List.map_cons, List.sum_nil, List.sum_cons, Nat.zero_le, Option.toList_some, Option.toList_none, List.cons_append, List.nil_append, ne_eq, not_false_eq_true, not_true_eq_false, nI_1, nI_add, Value.category, Nat.reduceAdd, Nat.reduceMod, Nat.reduceLeDiff, Nat.reduceLT, Nat.reduceEqDiff, Nat.reducePow, Nat.le_refl, Nat.add_left_cancel_iff, Nat.add_eq_left, Nat.left_eq_add, Nat.add_zero, A0, f11, z1, B6, nI_leT hp (show gs_pl s < 2 ^ 31 by omega)]
      exact ⟨⟨R, f11⟩, by omega, by omega⟩
    have hp' : gs_pl s < gs_n K := by omega
    have hp7 : gs_pl s < 700 := by omega
    simp only [r58_0, r58_0n, r58_1, r58_4, r58_7, r58_7n, r58_8, r58_11, r58_12, r58_12n, r58_13, r58_16, r58_16n, r58_17, r58_20, r58_23, r58_23n, r58_24, r58_27, r58_27n, r58_28, r58_31, r58_35, r58_38, r58_39, r58_40, r58_40n, r58_41, r58_44, r58_45, r58_45n, r58_49, r58_50, r58_50n, r58_51, r58_51n, r58_52, r58_53, r58_56, r58_56n, r58_57, r58_57n, r58_58, r58_61, r58_64, r58_64n, r58_65, r58_68, i32_10, reduceIte, gm_cmp1, gm_cmp3, gm_cmp4, gm_kd_sf, gm_ln_sf, gm_sf_1, gm_sf_2, gm_nw_1, gm_nw_2, gm_k_int, gm_k_ref, gm_k_null, gm_k_u, gm_k_long, and_true, true_and, true_or, or_true, or_false, false_or, and_self, or_self, if_true, if_false, List.map_nil, List.map_cons, List.sum_nil, List.sum_cons, Nat.zero_le, Option.toList_some, Option.toList_none, List.cons_append, List.nil_append, ne_eq, not_false_eq_true, not_true_eq_false, nI_1, nI_add, Value.category, Nat.reduceAdd, Nat.reduceMod, Nat.reduceLeDiff, Nat.reduceLT, Nat.reduceEqDiff, Nat.reducePow, Nat.le_refl, Nat.add_left_cancel_iff, Nat.add_eq_left, Nat.left_eq_add, Nat.add_zero, A0, f11, z1, B6, nI_leF hp' (show gs_n K < 2 ^ 31 by omega), A5, A2, A2l, hp7, B8 _ hp']
    refine c58_32 (by simp) (by omega) (x_isBlock _) (gx_kn ?_) gx_kx
    cases hb : gs_isB (gs_sb K (gs_pl s)) with
    | false =>
      simp only [r58_0, r58_0n, r58_1, r58_4, r58_7, r58_7n, r58_8, r58_11, r58_12, r58_12n, r58_13, r58_16, r58_16n, r58_17, r58_20, r58_23, r58_23n, r58_24, r58_27, r58_27n, r58_28, r58_31, r58_35, r58_38, r58_39, r58_40, r58_40n, r58_41, r58_44, r58_45, r58_45n, r58_49, r58_50, r58_50n, r58_51, r58_51n, r58_52, r58_53, r58_56, r58_56n, r58_57, r58_57n, r58_58, r58_61, r58_64, r58_64n, r58_65, r58_68, i32_10, reduceIte, gm_cmp1, gm_cmp3, gm_cmp4, gm_kd_sf, gm_ln_sf, gm_sf_1, gm_sf_2, gm_nw_1, gm_nw_2, gm_k_int, gm_k_ref, gm_k_null, gm_k_u, gm_k_long, and_true, true_and, true_or, or_true, or_false, false_or, and_self, or_self, if_true, if_false, List.map_nil, List.map_cons, List.sum_nil, List.sum_cons, Nat.zero_le, Option.toList_some, Option.toList_none, List.cons_append, List.nil_append, ne_eq, not_false_eq_true, not_true_eq_false, nI_1, nI_add, Value.category, Nat.reduceAdd, Nat.reduceMod, Nat.reduceLeDiff, Nat.reduceLT, Nat.reduceEqDiff, Nat.reducePow, Nat.le_refl, Nat.add_left_cancel_iff, Nat.add_eq_left, Nat.left_eq_add, Nat.add_zero, Bool.false_eq_true]
      exact ⟨⟨R, f11⟩, by omega, by omega⟩
    | true =>
      have hno : ¬ (gs_n K ≤ gs_pl s ∨ true = false) := fun z => z.elim hp (by decide)
      simp only [if_neg hno]
      simp only [r58_0, r58_0n, r58_1, r58_4, r58_7, r58_7n, r58_8, r58_11, r58_12, r58_12n, r58_13, r58_16, r58_16n, r58_17, r58_20, r58_23, r58_23n, r58_24, r58_27, r58_27n, r58_28, r58_31, r58_35, r58_38, r58_39, r58_40, r58_40n, r58_41, r58_44, r58_45, r58_45n, r58_49, r58_50, r58_50n, r58_51, r58_51n, r58_52, r58_53, r58_56, r58_56n, r58_57, r58_57n, r58_58, r58_61, r58_64, r58_64n, r58_65, r58_68, i32_10, reduceIte, gm_cmp1, gm_cmp3, gm_cmp4, gm_kd_sf, gm_ln_sf, gm_sf_1, gm_sf_2, gm_nw_1, gm_nw_2, gm_k_int, gm_k_ref, gm_k_null, gm_k_u, gm_k_long, and_true, true_and, true_or, or_true, or_false, false_or, and_self, or_self, if_true, if_false, List.map_nil, List.map_cons, List.sum_nil, List.sum_cons, Nat.zero_le, Option.toList_some, Option.toList_none, List.cons_append, List.nil_append, ne_eq, not_false_eq_true, not_true_eq_false, nI_1, nI_add, Value.category, Nat.reduceAdd, Nat.reduceMod, Nat.reduceLeDiff, Nat.reduceLT, Nat.reduceEqDiff, Nat.reducePow, Nat.le_refl, Nat.add_left_cancel_iff, Nat.add_eq_left, Nat.left_eq_add, Nat.add_zero, A0, z1]
      refine c58_46 (by simp) A0 (by omega) (z_skipBlock (by omega) R) (fun v h1 q => ?_) (fun a h1 q => ?_)
      · obtain ⟨n, p, e, rfl, R1, f1, n1⟩ := q
        rw [e]
        simp only [r58_0, r58_0n, r58_1, r58_4, r58_7, r58_7n, r58_8, r58_11, r58_12, r58_12n, r58_13, r58_16, r58_16n, r58_17, r58_20, r58_23, r58_23n, r58_24, r58_27, r58_27n, r58_28, r58_31, r58_35, r58_38, r58_39, r58_40, r58_40n, r58_41, r58_44, r58_45, r58_45n, r58_49, r58_50, r58_50n, r58_51, r58_51n, r58_52, r58_53, r58_56, r58_56n, r58_57, r58_57n, r58_58, r58_61, r58_64, r58_64n, r58_65, r58_68, i32_10, reduceIte, gm_cmp1, gm_cmp3, gm_cmp4, gm_kd_sf, gm_ln_sf, gm_sf_1, gm_sf_2, gm_nw_1, gm_nw_2, gm_k_int, gm_k_ref, gm_k_null, gm_k_u, gm_k_long, and_true, true_and, true_or, or_true, or_false, false_or, and_self, or_self, if_true, if_false, List.map_nil, List.map_cons, List.sum_nil, List.sum_cons, Nat.zero_le, Option.toList_some, Option.toList_none, List.cons_append, List.nil_append, ne_eq, not_false_eq_true, not_true_eq_false, nI_1, nI_add, Value.category, Nat.reduceAdd, Nat.reduceMod, Nat.reduceLeDiff, Nat.reduceLT, Nat.reduceEqDiff, Nat.reducePow, Nat.le_refl, Nat.add_left_cancel_iff, Nat.add_eq_left, Nat.left_eq_add, Nat.add_zero]
        exact ⟨⟨R1, f1.trans f11⟩, by have := n1.1; omega, by have := n1.2; omega⟩
      · obtain ⟨f, p, e, f12, R1, f1, n1, n2⟩ := q
        rw [e]
        have k1 := R1.1.1
        have l1 : gm_ln h1 x = 13 := R1.len.1
        have RP := R1.place (p := gs_pl s) (by omega)
        have RL := RP.last (v := f)
        have n127 : (12 : Nat) ≠ 7 := by decide
        have n1211 : (12 : Nat) ≠ 11 := by decide
        simp only [r58_0, r58_0n, r58_1, r58_4, r58_7, r58_7n, r58_8, r58_11, r58_12, r58_12n, r58_13, r58_16, r58_16n, r58_17, r58_20, r58_23, r58_23n, r58_24, r58_27, r58_27n, r58_28, r58_31, r58_35, r58_38, r58_39, r58_40, r58_40n, r58_41, r58_44, r58_45, r58_45n, r58_49, r58_50, r58_50n, r58_51, r58_51n, r58_52, r58_53, r58_56, r58_56n, r58_57, r58_57n, r58_58, r58_61, r58_64, r58_64n, r58_65, r58_68, i32_10, reduceIte, gm_cmp1, gm_cmp3, gm_cmp4, gm_kd_sf, gm_ln_sf, gm_sf_1, gm_sf_2, gm_nw_1, gm_nw_2, gm_k_int, gm_k_ref, gm_k_null, gm_k_u, gm_k_long, and_true, true_and, true_or, or_true, or_false, false_or, and_self, or_self, if_true, if_false, List.map_nil, List.map_cons, List.sum_nil, List.sum_cons, Nat.zero_le, Option.toList_some, Option.toList_none, List.cons_append, List.nil_append, ne_eq, not_false_eq_true, not_true_eq_false, nI_1, nI_add, Value.category, Nat.reduceAdd, Nat.reduceMod, Nat.reduceLeDiff, Nat.reduceLT, Nat.reduceEqDiff, Nat.reducePow, Nat.le_refl, Nat.add_left_cancel_iff, Nat.add_eq_left, Nat.left_eq_add, Nat.add_zero, k1, gm_fv_sfj n127, f12, gm_fv_sfj n1211]
        exact ⟨⟨RL, gm_fv_sf (by rw [gm_ln_sf]; omega)⟩, by omega, by omega⟩
  · rw [if_pos h0]
    simp only [r58_0, r58_0n, r58_1, r58_4, r58_7, r58_7n, r58_8, r58_11, r58_12, r58_12n, r58_13, r58_16, r58_16n, r58_17, r58_20, r58_23, r58_23n, r58_24, r58_27, r58_27n, r58_28, r58_31, r58_35, r58_38, r58_39, r58_40, r58_40n, r58_41, r58_44, r58_45, r58_45n, r58_49, r58_50, r58_50n, r58_51, r58_51n, r58_52, r58_53, r58_56, r58_56n, r58_57, r58_57n, r58_58, r58_61, r58_64, r58_64n, r58_65, r58_68, i32_10, reduceIte, gm_cmp1, gm_cmp3, gm_cmp4, gm_kd_sf, gm_ln_sf, gm_sf_1, gm_sf_2, gm_nw_1, gm_nw_2, gm_k_int, gm_k_ref, gm_k_null, gm_k_u, gm_k_long, and_true, true_and, true_or, or_true, or_false, false_or, and_self, or_self, if_true, if_false, List.map_nil, List.map_cons, List.sum_nil, List.sum_cons, Nat.zero_le, Option.toList_some, Option.toList_none, List.cons_append, List.nil_append, ne_eq, not_false_eq_true, not_true_eq_false, nI_1, nI_add, Value.category, Nat.reduceAdd, Nat.reduceMod, Nat.reduceLeDiff, Nat.reduceLT, Nat.reduceEqDiff, Nat.reducePow, Nat.le_refl, Nat.add_left_cancel_iff, Nat.add_eq_left, Nat.left_eq_add, Nat.add_zero, A0, f11, h0]
    exact ⟨⟨R, f11⟩, by omega, by omega⟩
end ZA
/-! THE CLASS, 28: a new object. -/
section ZB
variable {E : Nat → Value} {d x b : Nat} {h h' : gm_H} {ca ca' : Nat → Nat} {K K' : gs_K} {F G : Nat → Prop} {s : gs_S} {lf : Int32}
/-- an array made, and kept in the field k of the object at a -/
def gx_al (h : gm_H) (a k : Nat) (c : gm_C) (n : Nat) : gm_H := gm_sf (gm_nw h c n) a k (.ref h.1)
section AL
variable {a k n q : Nat} {c : gm_C}
theorem al_1 : (gx_al h a k c n).1 = h.1 + 1 ∧ (gx_al h a k c n).2.1 = h.2.1 + n := by unfold gx_al; simp only [gm_sf_1, gm_sf_2, gm_nw_1, gm_nw_2, and_self]
theorem al_kd (hb : b ≠ h.1) : gm_kd (gx_al h a k c n) b = gm_kd h b := by unfold gx_al; rw [gm_kd_sf, gm_kd_nw hb]
theorem al_ln (hb : b ≠ h.1) : gm_ln (gx_al h a k c n) b = gm_ln h b := by unfold gx_al; rw [gm_ln_sf, gm_ln_nw hb]
theorem al_fk (ha : a ≠ h.1) (hk : k < gm_ln h a) : gm_fv (gx_al h a k c n) a k = .ref h.1 := by unfold gx_al; exact gm_fv_sf (by rw [gm_ln_nw ha]; exact hk)
theorem al_fj {j : Nat} (hj : b ≠ a ∨ j ≠ k) (hb : b ≠ h.1) : gm_fv (gx_al h a k c n) b j = gm_fv h b j := by
  unfold gx_al
  rcases hj with z | z
  · rw [gm_fv_sfa z, gm_fv_nw hb]
  · rw [gm_fv_sfj z, gm_fv_nw hb]
theorem al_rd (h1 : b ≠ a) (h2 : b ≠ h.1) : gm_rd (gx_al h a k c n) b = gm_rd h b := by unfold gx_al; rw [gm_rd_sfn h1, gm_rd_nwn h2]
theorem al_kd1 : gm_kd (gx_al h a k c n) h.1 = if c.1 < 6 ∧ c.2.length ≠ gm_N c.1 then 999 else c.1 := by unfold gx_al; rw [gm_kd_sf, gm_kd_nw1]
theorem al_ln1 : gm_ln (gx_al h a k c n) h.1 = c.2.length := by unfold gx_al; rw [gm_ln_sf, gm_ln_nw1]
theorem al_fv1 {j : Nat} (ha : a ≠ h.1) : gm_fv (gx_al h a k c n) h.1 j = c.2.getD j gm_u := by unfold gx_al; rw [gm_fv_sfa (Ne.symm ha), gm_fv_nw1]
end AL
def gx_h0 (h : gm_H) : gm_H := gm_nw h (2, [.null, .null, .int 0, .int 0]) 4
theorem x_Handles : gm_Ca E d 110 [.ref h.1] (gx_h0 h) (gx_v none (gx_al (gx_al (gx_h0 h) h.1 0 (100, List.replicate 234 (.int 0)) 234) h.1 1 (112, List.replicate 234 .null) 234)) := by
  have k0 : gm_kd (gx_h0 h) h.1 = 2 := by unfold gx_h0; rw [gm_kd_nw1]; rfl
  have e1 : (gx_h0 h).1 = h.1 + 1 := rfl
  have n0 : h.1 ≠ (gx_h0 h).1 := by rw [e1]; omega
  show gm_W E d 110 0 [.ref h.1] [] (gx_h0 h) _
  rw [r110_0, r110_1 (by simp), r110_4, r110_5, r110_8, r110_10 (by rw [gm_kd_nw n0]; exact k0)]
  show gm_W E d 110 13 [.ref h.1] [] (gx_al (gx_h0 h) h.1 0 (100, List.replicate 234 (.int 0)) 234) _
  have n1 : h.1 ≠ (gx_al (gx_h0 h) h.1 0 (100, List.replicate 234 (.int 0)) 234).1 := by rw [al_1.1, e1]; omega
  rw [r110_13, r110_14, r110_17, r110_20 (by rw [gm_kd_nw n1, al_kd n0]; exact k0), r110_23]
  exact ⟨rfl, rfl⟩
def gs_cl (v lo hi : Int32) : Int32 := if (if hi < v then hi else v) > lo then (if hi < v then hi else v) else lo
/-- the first state: limits -/
def gs_K0 (p q r t : Int32) : gs_K := ((gs_cl p 1 8, gs_cl q 1 60, gs_cl r 0 20, gs_cl t 4 700), (fun _ => none), (fun _ => 0), 0, false, 0)
def gx_x0 (h : gm_H) : gm_H := gm_nw h (0, [.int 0, .int 0, .int 0, .int 0, .null, .null, .int 0, .int 0, .null, .int 0, .null, .int 0, .int 0]) 13
theorem x_new {p q r t : Int32} (hd : 1 ≤ d) (Gv : gx_G E h h.1 (fun _ => False)) : gm_Ca E d 51 [.ref h.1, .int p, .int q, .int r, .int t] (gx_x0 h) (fun rr h' => rr = .inl none ∧ gx_X E h' h.1 ca (gs_K0 p q r t) (0, [], [], 0) 0 ∧ h'.1 = h.1 + 7 ∧ h'.2.1 = h.2.1 + 1425 ∧ ∀ b, b < h.1 → gm_rd h' b = gm_rd h b) := by
  obtain ⟨x, hx⟩ : ∃ x, x = h.1 := ⟨_, rfl⟩
  rw [← hx] at Gv ⊢
  obtain ⟨h0, h0e⟩ : ∃ h0, h0 = gx_x0 h := ⟨_, rfl⟩
  rw [← h0e]
  have c0 : h0.1 = x + 1 ∧ h0.2.1 = h.2.1 + 13 := by rw [h0e, hx]; exact ⟨rfl, rfl⟩
  have k0 : gm_kd h0 x = 0 := by rw [h0e, hx]; unfold gx_x0; rw [gm_kd_nw1]; rfl
  have l0 : gm_ln h0 x = 13 := by rw [h0e, hx]; exact gm_ln_nw1
  have f0 : ∀ j, gm_fv h0 x j = ([.int 0, .int 0, .int 0, .int 0, .null, .null, .int 0, .int 0, .null, .int 0, .null, .int 0, .int 0] : List Value).getD j gm_u := fun j => by rw [h0e, hx]; exact gm_fv_nw1
  have r0 : ∀ b, b < x → gm_rd h0 b = gm_rd h b := fun b hb => by rw [h0e]; exact gm_rd_nwn (by omega)
  clear h0e
  show gm_W E d 51 0 [.ref x, .int p, .int q, .int r, .int t] [] h0 _
  rw [r51_0, r51_1 (by simp), r51_4, r51_5, r51_7, r51_10 (by rw [gm_kd_nw (by omega)]; exact k0)]
  obtain ⟨h1, h1e⟩ : ∃ h1, h1 = gx_al h0 x 4 (110, List.replicate 6 .null) 6 := ⟨_, rfl⟩
  show gm_W E d 51 13 _ _ (gx_al h0 x 4 (110, List.replicate 6 .null) 6) _
  rw [← h1e]
  have c1 : h1.1 = x + 2 ∧ h1.2.1 = h.2.1 + 19 := by rw [h1e]; have := al_1 (h := h0) (a := x) (k := 4) (c := (110, List.replicate 6 .null)) (n := 6); omega
  have k1 : gm_kd h1 x = 0 := by rw [h1e, al_kd (by omega)]; exact k0
  rw [r51_13, r51_14, r51_17, r51_19 (by rw [gm_kd_nw (by omega)]; exact k1)]
  obtain ⟨h2, h2e⟩ : ∃ h2, h2 = gx_al h1 x 5 (102, List.replicate 700 (.int 0)) 700 := ⟨_, rfl⟩
  show gm_W E d 51 22 _ _ (gx_al h1 x 5 (102, List.replicate 700 (.int 0)) 700) _
  rw [← h2e]
  have c2 : h2.1 = x + 3 ∧ h2.2.1 = h.2.1 + 719 := by rw [h2e]; have := al_1 (h := h1) (a := x) (k := 5) (c := (102, List.replicate 700 (.int 0))) (n := 700); omega
  have k2 : gm_kd h2 x = 0 := by rw [h2e, al_kd (by omega)]; exact k1
  rw [r51_22, r51_23, r51_26, r51_29 (by rw [gm_kd_nw (by omega)]; exact k2)]
  obtain ⟨h3, h3e⟩ : ∃ h3, h3 = gx_al h2 x 8 (111, List.replicate 234 .null) 234 := ⟨_, rfl⟩
  show gm_W E d 51 32 _ _ (gx_al h2 x 8 (111, List.replicate 234 .null) 234) _
  rw [← h3e]
  have c3 : h3.1 = x + 4 ∧ h3.2.1 = h.2.1 + 953 := by rw [h3e]; have := al_1 (h := h2) (a := x) (k := 8) (c := (111, List.replicate 234 .null)) (n := 234); omega
  have k3 : gm_kd h3 x = 0 := by rw [h3e, al_kd (by omega)]; exact k2
  rw [r51_32, r51_33, r51_36]
  refine c51_37 (by simp [Value.category]) hd (x_Handles (h := h3)) (gx_kn ?_) gx_kx
  obtain ⟨h4, h4e⟩ : ∃ h4, h4 = gx_al (gx_h0 h3) h3.1 0 (100, List.replicate 234 (.int 0)) 234 := ⟨_, rfl⟩
  obtain ⟨h5, h5e⟩ : ∃ h5, h5 = gx_al h4 h3.1 1 (112, List.replicate 234 .null) 234 := ⟨_, rfl⟩
  rw [← h4e, ← h5e]
  have c4 : h4.1 = x + 6 ∧ h4.2.1 = h.2.1 + 1191 := by rw [h4e]; have := al_1 (h := gx_h0 h3) (a := h3.1) (k := 0) (c := (100, List.replicate 234 (.int 0))) (n := 234); have e1 : (gx_h0 h3).1 = h3.1 + 1 := rfl; have e2 : (gx_h0 h3).2.1 = h3.2.1 + 4 := rfl; omega
  have c5 : h5.1 = x + 7 ∧ h5.2.1 = h.2.1 + 1425 := by rw [h5e]; have := al_1 (h := h4) (a := h3.1) (k := 1) (c := (112, List.replicate 234 .null)) (n := 234); omega
  have g0 : (gx_h0 h3).1 = x + 5 := by show h3.1 + 1 = _; omega
  have r5 : ∀ b, b < x + 4 → gm_rd h5 b = gm_rd h3 b := fun b hb => by
    rw [h5e, al_rd (by omega) (by omega), h4e, al_rd (by omega) (by omega)]
    exact gm_rd_nwn (by omega)
  have r3 : ∀ b, b < x → gm_rd h3 b = gm_rd h b := fun b hb => by
    rw [h3e, al_rd (by omega) (by omega), h2e, al_rd (by omega) (by omega), h1e, al_rd (by omega) (by omega)]
    exact r0 b hb
  have kx : gm_kd h5 x = 0 := (gv_kd (r5 x (by omega))).trans k3
  have ex : ∀ e : Value, (none : Option Value).toList ++ [Value.ref h3.1, e] = [Value.ref h3.1, e] := fun _ => rfl
  simp only [Option.toList_none, List.nil_append]
  rw [r51_40 kx, r51_43, r51_44, r51_45, r51_46]
  refine c51_48 (by simp [Value.category]) hd (x_min p 8) (gx_kn ?_) gx_kx
  simp only [Option.toList_some, List.cons_append, List.nil_append]
  refine c51_51 (by simp [Value.category]) hd (x_max 1 _) (gx_kn ?_) gx_kx
  simp only [Option.toList_some, List.cons_append, List.nil_append]
  rw [r51_54 (by rw [gm_kd_sf]; exact kx), r51_57, r51_58, r51_59, r51_60]
  refine c51_62 (by simp [Value.category]) hd (x_min q 60) (gx_kn ?_) gx_kx
  simp only [Option.toList_some, List.cons_append, List.nil_append]
  refine c51_65 (by simp [Value.category]) hd (x_max 1 _) (gx_kn ?_) gx_kx
  simp only [Option.toList_some, List.cons_append, List.nil_append]
  rw [r51_68 (by simp only [gm_kd_sf]; exact kx), r51_71, r51_72, r51_73, r51_74]
  refine c51_76 (by simp [Value.category]) hd (x_min r 20) (gx_kn ?_) gx_kx
  simp only [Option.toList_some, List.cons_append, List.nil_append]
  refine c51_79 (by simp [Value.category]) hd (x_max 0 _) (gx_kn ?_) gx_kx
  simp only [Option.toList_some, List.cons_append, List.nil_append]
  rw [r51_82 (by simp only [gm_kd_sf]; exact kx), r51_85, r51_86, r51_87, r51_89]
  refine c51_92 (by simp [Value.category]) hd (x_min t 700) (gx_kn ?_) gx_kx
  simp only [Option.toList_some, List.cons_append, List.nil_append]
  refine c51_95 (by simp [Value.category]) hd (x_max 4 _) (gx_kn ?_) gx_kx
  simp only [Option.toList_some, List.cons_append, List.nil_append]
  rw [r51_98 (by simp only [gm_kd_sf]; exact kx), r51_101]
  obtain ⟨L0, hL0⟩ : ∃ L0, L0 = gs_cl p 1 8 := ⟨_, rfl⟩
  obtain ⟨L1, hL1⟩ : ∃ L1, L1 = gs_cl q 1 60 := ⟨_, rfl⟩
  obtain ⟨L2, hL2⟩ : ∃ L2, L2 = gs_cl r 0 20 := ⟨_, rfl⟩
  obtain ⟨L3, hL3⟩ : ∃ L3, L3 = gs_cl t 4 700 := ⟨_, rfl⟩
  obtain ⟨h6, h6e⟩ : ∃ h6, h6 = gm_sf (gm_sf (gm_sf (gm_sf (gm_sf h5 x 10 (.ref h3.1)) x 0 (.int L0)) x 1 (.int L1)) x 2 (.int L2)) x 3 (.int L3) := ⟨_, rfl⟩
  have eh : gm_sf (gm_sf (gm_sf (gm_sf (gm_sf h5 x 10 (.ref h3.1)) x 0 (.int (if 1 < (if 8 < p then 8 else p) then (if 8 < p then 8 else p) else 1))) x 1 (.int (if 1 < (if 60 < q then 60 else q) then (if 60 < q then 60 else q) else 1))) x 2 (.int (if 0 < (if 20 < r then 20 else r) then (if 20 < r then 20 else r) else 0))) x 3 (.int (if 4 < (if 700 < t then 700 else t) then (if 700 < t then 700 else t) else 4)) = h6 := by
    rw [h6e, hL0, hL1, hL2, hL3]
    rfl
  rw [eh]
  clear eh
  have lx : gm_ln h5 x = 13 := gm_kd_ln kx (by decide)
  have r6 : ∀ b, b ≠ x → gm_rd h6 b = gm_rd h5 b := fun b hb => by rw [h6e, gm_rd_sfn hb, gm_rd_sfn hb, gm_rd_sfn hb, gm_rd_sfn hb, gm_rd_sfn hb]
  have k6 : ∀ b, gm_kd h6 b = gm_kd h5 b := fun b => by rw [h6e]; simp only [gm_kd_sf]
  have ln6 : ∀ b, gm_ln h6 b = gm_ln h5 b := fun b => by rw [h6e]; simp only [gm_ln_sf]
  have f6 : ∀ j, j ≠ 0 → j ≠ 1 → j ≠ 2 → j ≠ 3 → j ≠ 10 → gm_fv h6 x j = gm_fv h5 x j := fun j a0 a1 a2 a3 a10 => by rw [h6e, gm_fv_sfj a3, gm_fv_sfj a2, gm_fv_sfj a1, gm_fv_sfj a0, gm_fv_sfj a10]
  have f60 : gm_fv h6 x 0 = .int L0 := by rw [h6e, gm_fv_sfj (by decide), gm_fv_sfj (by decide), gm_fv_sfj (by decide), gm_fv_sf (by simp only [gm_ln_sf, lx]; decide)]
  have f61 : gm_fv h6 x 1 = .int L1 := by rw [h6e, gm_fv_sfj (by decide), gm_fv_sfj (by decide), gm_fv_sf (by simp only [gm_ln_sf, lx]; decide)]
  have f62 : gm_fv h6 x 2 = .int L2 := by rw [h6e, gm_fv_sfj (by decide), gm_fv_sf (by simp only [gm_ln_sf, lx]; decide)]
  have f63 : gm_fv h6 x 3 = .int L3 := by rw [h6e, gm_fv_sf (by simp only [gm_ln_sf, lx]; decide)]
  have f610 : gm_fv h6 x 10 = .ref (x + 4) := by rw [h6e, gm_fv_sfj (by decide), gm_fv_sfj (by decide), gm_fv_sfj (by decide), gm_fv_sfj (by decide), gm_fv_sf (by rw [lx]; decide), c3.1]
  have c6 : h6.1 = x + 7 ∧ h6.2.1 = h.2.1 + 1425 := by rw [h6e]; simp only [gm_sf_1, gm_sf_2]; exact c5
  -- the object's fields as the arrays came
  have f5 : ∀ j, gm_fv h5 x j = gm_fv h3 x j := fun j => gv_fv (r5 x (by omega))
  have f3j : ∀ j, j ≠ 8 → gm_fv h3 x j = gm_fv h2 x j := fun j hj => by rw [h3e, al_fj (Or.inr hj) (by omega)]
  have f2j : ∀ j, j ≠ 5 → gm_fv h2 x j = gm_fv h1 x j := fun j hj => by rw [h2e, al_fj (Or.inr hj) (by omega)]
  have f1j : ∀ j, j ≠ 4 → gm_fv h1 x j = gm_fv h0 x j := fun j hj => by rw [h1e, al_fj (Or.inr hj) (by omega)]
  have l1x : gm_ln h1 x = 13 := gm_kd_ln k1 (by decide)
  have l2x : gm_ln h2 x = 13 := gm_kd_ln k2 (by decide)
  have fx4 : gm_fv h5 x 4 = .ref (x + 1) := by rw [f5, f3j 4 (by decide), f2j 4 (by decide), h1e, al_fk (by omega) (by rw [l0]; decide), c0.1]
  have fx5 : gm_fv h5 x 5 = .ref (x + 2) := by rw [f5, f3j 5 (by decide), h2e, al_fk (by omega) (by rw [l1x]; decide), c1.1]
  have fx8 : gm_fv h5 x 8 = .ref (x + 3) := by rw [f5, h3e, al_fk (by omega) (by rw [l2x]; decide), c2.1]
  have fxj : ∀ j, j ≠ 4 → j ≠ 5 → j ≠ 8 → gm_fv h5 x j = ([.int 0, .int 0, .int 0, .int 0, .null, .null, .int 0, .int 0, .null, .int 0, .null, .int 0, .int 0] : List Value).getD j gm_u := fun j a4 a5 a8 => by rw [f5, f3j j a8, f2j j a5, f1j j a4]; exact f0 j
  have a1 : gm_rd h5 (x + 1) = gm_rd h1 (x + 1) := by rw [r5 _ (by omega), h3e, al_rd (by omega) (by omega), h2e, al_rd (by omega) (by omega)]
  have a2 : gm_rd h5 (x + 2) = gm_rd h2 (x + 2) := by rw [r5 _ (by omega), h3e, al_rd (by omega) (by omega)]
  have a3 : gm_rd h5 (x + 3) = gm_rd h3 (x + 3) := r5 _ (by omega)
  have kk1 : gm_kd h1 (x + 1) = 110 := by rw [h1e, ← c0.1, al_kd1]; rfl
  have kl1 : gm_ln h1 (x + 1) = 6 := by rw [h1e, ← c0.1, al_ln1]; rfl
  have kf1 : ∀ j, j < 6 → gm_fv h1 (x + 1) j = .null := fun j hj => by
    rw [h1e, ← c0.1, al_fv1 (by omega)]
    show (List.replicate 6 Value.null).getD j gm_u = _
    rw [List.getD_eq_getElem?_getD, List.getElem?_replicate, if_pos hj]; rfl
  have kk2 : gm_kd h2 (x + 2) = 102 := by rw [h2e, ← c1.1, al_kd1]; rfl
  have kl2 : gm_ln h2 (x + 2) = 700 := by rw [h2e, ← c1.1, al_ln1]; exact List.length_replicate
  have kk3 : gm_kd h3 (x + 3) = 111 := by rw [h3e, ← c2.1, al_kd1]; rfl
  have kl3 : gm_ln h3 (x + 3) = 234 := by rw [h3e, ← c2.1, al_ln1]; exact List.length_replicate
  have kg : gm_kd (gx_h0 h3) (x + 4) = 2 := by rw [← c3.1]; unfold gx_h0; rw [gm_kd_nw1]; rfl
  have lg : gm_ln (gx_h0 h3) (x + 4) = 4 := gm_kd_ln kg (by decide)
  have fg : ∀ j, gm_fv (gx_h0 h3) (x + 4) j = ([.null, .null, .int 0, .int 0] : List Value).getD j gm_u := fun j => by rw [← c3.1]; exact gm_fv_nw1
  rw [c3.1] at h4e h5e
  have k44 : gm_kd h4 (x + 4) = 2 := by rw [h4e, al_kd (by omega)]; exact kg
  have l44 : gm_ln h4 (x + 4) = 4 := gm_kd_ln k44 (by decide)
  have k54 : gm_kd h5 (x + 4) = 2 := by rw [h5e, al_kd (by omega)]; exact k44
  have f54 : ∀ j, j ≠ 0 → j ≠ 1 → gm_fv h5 (x + 4) j = ([.null, .null, .int 0, .int 0] : List Value).getD j gm_u := fun j b0 b1 => by rw [h5e, al_fj (Or.inr b1) (by omega), h4e, al_fj (Or.inr b0) (by omega)]; exact fg j
  have f540 : gm_fv h5 (x + 4) 0 = .ref (x + 5) := by rw [h5e, al_fj (Or.inr (by decide)) (by omega), h4e, al_fk (by omega) (by rw [lg]; decide), g0]
  have f541 : gm_fv h5 (x + 4) 1 = .ref (x + 6) := by rw [h5e, al_fk (by omega) (by rw [l44]; decide), c4.1]
  have k55 : gm_kd h5 (x + 5) = 100 := by rw [h5e, al_kd (by omega), h4e, ← g0, al_kd1]; rfl
  have l55 : gm_ln h5 (x + 5) = 234 := by rw [h5e, al_ln (by omega), h4e, ← g0, al_ln1]; exact List.length_replicate
  have k56 : gm_kd h5 (x + 6) = 112 := by rw [h5e, ← c4.1, al_kd1]; rfl
  have l56 : gm_ln h5 (x + 6) = 234 := by rw [h5e, ← c4.1, al_ln1]; exact List.length_replicate
  have ag : gx_ag h h6 x (fun _ => False) := ⟨by omega, fun b o => by
    have hb : b < x := by have := o.1; have := o.2.1; omega
    rw [r6 b (by omega), r5 b (by omega)]; exact r3 b hb⟩
  have g4 : ∀ j, gm_fv h6 (x + 4) j = gm_fv h5 (x + 4) j := fun j => gv_fv (r6 _ (by omega))
  refine ⟨rfl, ⟨⟨⟨?_, ?_, ?_, ?_, ?_, ?_, ?_, ?_, ?_, ?_, ?_, ?_, ?_, ?_, ?_, ?_, ?_, ?_, by omega⟩, ⟨?_, ?_, ?_, ?_, ?_, Nat.zero_le _, fun i hi => absurd hi (Nat.not_lt_zero _)⟩, ⟨⟨Gv.tr ag, fun _ _ => rfl⟩, fun c hc => ⟨fun _ => ?_, fun C z => by cases z⟩⟩, ⟨?_, Nat.le_refl _, ?_, Nat.zero_le _, ?_, ?_, Nat.le_refl _, Nat.zero_le _, 0, ?_⟩, ⟨fun _ => 0, fun i j _ hj => absurd hj (Nat.not_lt_zero _), fun i o hi => by simp [gs_hp] at hi⟩, fun i e hi => by simp [gs_hs] at hi, fun i o c hi => by simp [gs_hp] at hi, fun i e hi => by simp [gs_hs] at hi⟩, ?_⟩, c6.1, c6.2, fun b hb => ?_⟩
  · rw [k6]; exact kx
  · rw [f6 4 (by decide) (by decide) (by decide) (by decide) (by decide)]; exact fx4
  · rw [f6 5 (by decide) (by decide) (by decide) (by decide) (by decide)]; exact fx5
  · rw [f6 8 (by decide) (by decide) (by decide) (by decide) (by decide)]; exact fx8
  · exact f610
  · rw [k6, gv_kd a1]; exact kk1
  · rw [ln6, gv_ln a1]; exact kl1
  · rw [k6, gv_kd a2]; exact kk2
  · rw [ln6, gv_ln a2]; exact kl2
  · rw [k6, gv_kd a3]; exact kk3
  · rw [ln6, gv_ln a3]; exact kl3
  · rw [k6]; exact k54
  · rw [g4]; exact f540
  · rw [g4]; exact f541
  · rw [k6]; exact k55
  · rw [ln6]; exact l55
  · rw [k6]; exact k56
  · rw [ln6]; exact l56
  · rw [f60, hL0]; rfl
  · rw [f61, hL1]; rfl
  · rw [f62, hL2]; rfl
  · rw [f63, hL3]; rfl
  · rw [f6 6 (by decide) (by decide) (by decide) (by decide) (by decide), fxj 6 (by decide) (by decide) (by decide)]; rfl
  · rw [gv_fv (r6 _ (by omega)), gv_fv a1]; exact kf1 c hc
  · rw [f6 7 (by decide) (by decide) (by decide) (by decide) (by decide), fxj 7 (by decide) (by decide) (by decide)]; rfl
  · rw [f6 9 (by decide) (by decide) (by decide) (by decide) (by decide), fxj 9 (by decide) (by decide) (by decide)]; rfl
  · rw [g4, f54 2 (by decide) (by decide)]; rfl
  · rw [g4, f54 3 (by decide) (by decide)]; rfl
  · rw [f6 12 (by decide) (by decide) (by decide) (by decide) (by decide), fxj 12 (by decide) (by decide) (by decide)]; rfl
  · rw [f6 11 (by decide) (by decide) (by decide) (by decide) (by decide), fxj 11 (by decide) (by decide) (by decide)]; rfl
  · rw [r6 b (by omega), r5 b (by omega)]; exact r3 b hb
end ZB
