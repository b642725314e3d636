/-! THE CLASS, 21: count, object, value, begin. -/
def gs_count (K : gs_K) (s : gs_S) (lf : Int32) (w : Int32) : Int32 := if w = 0 then nI (gs_pl s) else if w = 1 then nI (gs_size s) else if w = 2 then nI (gs_hp s).length else if w = 3 then lf else if w = 4 then nI (gs_n K) else -1
def gs_object (s : gs_S) (v w : Int32) : Int32 := if v < 0 then -1 else match (gs_hp s)[v.toNatClampNeg]? with
  | none => -1
  | some ob => if w = 0 then ob.1 else if w = 1 then (match ob.2.1 with
    | none => -1
    | some c => nI c) else if w = 2 then (if ob.1 = 4 then ob.2.2.2.1 else nI ob.2.2.1.length) else if w = 3 then ob.2.2.2.2 else -1
def gs_value (s : gs_S) (v k : Int32) : Int64 := if v < 0 ∨ k < 0 then -9000000000000000000 else match (gs_hp s)[v.toNatClampNeg]? with
  | none => -9000000000000000000
  | some ob => ob.2.2.1.getD k.toNatClampNeg (-9000000000000000000)
section Z4
variable {E : Nat → Value} {d x : Nat} {h h1 : gm_H} {ca : Nat → Nat} {K : gs_K} {F G : Nat → Prop} {s : gs_S} {lf : Int32}
theorem x_count {w : Int32} (hd : 1 ≤ d) (X : gx_X E h x ca K s lf) : gm_Ca E d 61 [.ref x, .int w] h (gx_v (some (.int (gs_count K s lf w))) h) := by
  obtain ⟨R, f11⟩ := X
  obtain ⟨A0, -, -, -, A10, -, -, -, -, -, -, A4, -⟩ := R.1
  obtain ⟨z1, z2, z3, z4, z5, z6, z7, z8, z9⟩ := R.2.2.2.1
  have B6 := R.2.1.2.2.2.2.1
  show gm_W E d 61 0 [.ref x, .int w] [] h _
  unfold gs_count
  by_cases w0 : w = 0
  · subst w0
    simp (decide := true) only [r61_0, r61_1, r61_36, r61_36n, r61_37, r61_40, r61_41, r61_41n, r61_42, r61_48, r61_49, r61_49n, r61_50, r61_53, r61_54, r61_54n, r61_55, r61_58, r61_59, r61_59n, r61_60, r61_63, r61_64, r61_65, i32_10, reduceIte, gm_cmp1, gm_cmp3, gm_cmp4, gm_kd_sf, gm_ln_sf, gm_sf_1, gm_sf_2, gm_nw_1, gm_nw_2, gm_k_int, gm_k_ref, gm_k_null, gm_k_u, gm_k_long, and_true, true_and, true_or, or_true, or_false, false_or, and_self, or_self, if_true, if_false, List.map_nil, List.map_cons, List.sum_nil, List.sum_cons, Nat.zero_le, Option.toList_some, Option.toList_none, List.cons_append, List.nil_append, ne_eq, not_false_eq_true, not_true_eq_false, nI_1, nI_add, Value.category, Nat.reduceAdd, Nat.reduceMod, Nat.reduceLeDiff, Nat.reduceLT, Nat.reduceEqDiff, Nat.reducePow, Nat.le_refl, Nat.add_left_cancel_iff, Nat.add_eq_left, Nat.left_eq_add, Nat.add_zero, A0, z1]
    exact ⟨rfl, rfl⟩
  by_cases w1 : w = 1
  · subst w1
    simp (decide := true) only [r61_0, r61_1, r61_36, r61_36n, r61_37, r61_40, r61_41, r61_41n, r61_42, r61_48, r61_49, r61_49n, r61_50, r61_53, r61_54, r61_54n, r61_55, r61_58, r61_59, r61_59n, r61_60, r61_63, r61_64, r61_65, i32_10, reduceIte, gm_cmp1, gm_cmp3, gm_cmp4, gm_kd_sf, gm_ln_sf, gm_sf_1, gm_sf_2, gm_nw_1, gm_nw_2, gm_k_int, gm_k_ref, gm_k_null, gm_k_u, gm_k_long, and_true, true_and, true_or, or_true, or_false, false_or, and_self, or_self, if_true, if_false, List.map_nil, List.map_cons, List.sum_nil, List.sum_cons, Nat.zero_le, Option.toList_some, Option.toList_none, List.cons_append, List.nil_append, ne_eq, not_false_eq_true, not_true_eq_false, nI_1, nI_add, Value.category, Nat.reduceAdd, Nat.reduceMod, Nat.reduceLeDiff, Nat.reduceLT, Nat.reduceEqDiff, Nat.reducePow, Nat.le_refl, Nat.add_left_cancel_iff, Nat.add_eq_left, Nat.left_eq_add, Nat.add_zero, A0, A10]
    refine c61_45 (by simp) A4 hd (x_size R) (gx_kn ?_) gx_kx
    simp only [r61_0, r61_1, r61_36, r61_36n, r61_37, r61_40, r61_41, r61_41n, r61_42, r61_48, r61_49, r61_49n, r61_50, r61_53, r61_54, r61_54n, r61_55, r61_58, r61_59, r61_59n, r61_60, r61_63, r61_64, r61_65, i32_10, reduceIte, gm_cmp1, gm_cmp3, gm_cmp4, gm_kd_sf, gm_ln_sf, gm_sf_1, gm_sf_2, gm_nw_1, gm_nw_2, gm_k_int, gm_k_ref, gm_k_null, gm_k_u, gm_k_long, and_true, true_and, true_or, or_true, or_false, false_or, and_self, or_self, if_true, if_false, List.map_nil, List.map_cons, List.sum_nil, List.sum_cons, Nat.zero_le, Option.toList_some, Option.toList_none, List.cons_append, List.nil_append, ne_eq, not_false_eq_true, not_true_eq_false, nI_1, nI_add, Value.category, Nat.reduceAdd, Nat.reduceMod, Nat.reduceLeDiff, Nat.reduceLT, Nat.reduceEqDiff, Nat.reducePow, Nat.le_refl, Nat.add_left_cancel_iff, Nat.add_eq_left, Nat.left_eq_add, Nat.add_zero]
    exact ⟨rfl, rfl⟩
  by_cases w2 : w = 2
  · subst w2
    simp (decide := true) only [r61_0, r61_1, r61_36, r61_36n, r61_37, r61_40, r61_41, r61_41n, r61_42, r61_48, r61_49, r61_49n, r61_50, r61_53, r61_54, r61_54n, r61_55, r61_58, r61_59, r61_59n, r61_60, r61_63, r61_64, r61_65, i32_10, reduceIte, gm_cmp1, gm_cmp3, gm_cmp4, gm_kd_sf, gm_ln_sf, gm_sf_1, gm_sf_2, gm_nw_1, gm_nw_2, gm_k_int, gm_k_ref, gm_k_null, gm_k_u, gm_k_long, and_true, true_and, true_or, or_true, or_false, false_or, and_self, or_self, if_true, if_false, List.map_nil, List.map_cons, List.sum_nil, List.sum_cons, Nat.zero_le, Option.toList_some, Option.toList_none, List.cons_append, List.nil_append, ne_eq, not_false_eq_true, not_true_eq_false, nI_1, nI_add, Value.category, Nat.reduceAdd, Nat.reduceMod, Nat.reduceLeDiff, Nat.reduceLT, Nat.reduceEqDiff, Nat.reducePow, Nat.le_refl, Nat.add_left_cancel_iff, Nat.add_eq_left, Nat.left_eq_add, Nat.add_zero, A0, z3]
    exact ⟨rfl, rfl⟩
  by_cases w3 : w = 3
  · subst w3
    simp (decide := true) only [r61_0, r61_1, r61_36, r61_36n, r61_37, r61_40, r61_41, r61_41n, r61_42, r61_48, r61_49, r61_49n, r61_50, r61_53, r61_54, r61_54n, r61_55, r61_58, r61_59, r61_59n, r61_60, r61_63, r61_64, r61_65, i32_10, reduceIte, gm_cmp1, gm_cmp3, gm_cmp4, gm_kd_sf, gm_ln_sf, gm_sf_1, gm_sf_2, gm_nw_1, gm_nw_2, gm_k_int, gm_k_ref, gm_k_null, gm_k_u, gm_k_long, and_true, true_and, true_or, or_true, or_false, false_or, and_self, or_self, if_true, if_false, List.map_nil, List.map_cons, List.sum_nil, List.sum_cons, Nat.zero_le, Option.toList_some, Option.toList_none, List.cons_append, List.nil_append, ne_eq, not_false_eq_true, not_true_eq_false, nI_1, nI_add, Value.category, Nat.reduceAdd, Nat.reduceMod, Nat.reduceLeDiff, Nat.reduceLT, Nat.reduceEqDiff, Nat.reducePow, Nat.le_refl, Nat.add_left_cancel_iff, Nat.add_eq_left, Nat.left_eq_add, Nat.add_zero, A0, f11]
    exact ⟨rfl, rfl⟩
  by_cases w4 : w = 4
  · subst w4
    simp (decide := true) only [r61_0, r61_1, r61_36, r61_36n, r61_37, r61_40, r61_41, r61_41n, r61_42, r61_48, r61_49, r61_49n, r61_50, r61_53, r61_54, r61_54n, r61_55, r61_58, r61_59, r61_59n, r61_60, r61_63, r61_64, r61_65, i32_10, reduceIte, gm_cmp1, gm_cmp3, gm_cmp4, gm_kd_sf, gm_ln_sf, gm_sf_1, gm_sf_2, gm_nw_1, gm_nw_2, gm_k_int, gm_k_ref, gm_k_null, gm_k_u, gm_k_long, and_true, true_and, true_or, or_true, or_false, false_or, and_self, or_self, if_true, if_false, List.map_nil, List.map_cons, List.sum_nil, List.sum_cons, Nat.zero_le, Option.toList_some, Option.toList_none, List.cons_append, List.nil_append, ne_eq, not_false_eq_true, not_true_eq_false, nI_1, nI_add, Value.category, Nat.reduceAdd, Nat.reduceMod, Nat.reduceLeDiff, Nat.reduceLT, Nat.reduceEqDiff, Nat.reducePow, Nat.le_refl, Nat.add_left_cancel_iff, Nat.add_eq_left, Nat.left_eq_add, Nat.add_zero, A0, B6]
    exact ⟨rfl, rfl⟩
  simp only [r61_0, r61_1, r61_36, r61_36n, r61_37, r61_40, r61_41, r61_41n, r61_42, r61_48, r61_49, r61_49n, r61_50, r61_53, r61_54, r61_54n, r61_55, r61_58, r61_59, r61_59n, r61_60, r61_63, r61_64, r61_65, i32_10, reduceIte, gm_cmp1, gm_cmp3, gm_cmp4, gm_kd_sf, gm_ln_sf, gm_sf_1, gm_sf_2, gm_nw_1, gm_nw_2, gm_k_int, gm_k_ref, gm_k_null, gm_k_u, gm_k_long, and_true, true_and, true_or, or_true, or_false, false_or, and_self, or_self, if_true, if_false, List.map_nil, List.map_cons, List.sum_nil, List.sum_cons, Nat.zero_le, Option.toList_some, Option.toList_none, List.cons_append, List.nil_append, ne_eq, not_false_eq_true, not_true_eq_false, nI_1, nI_add, Value.category, Nat.reduceAdd, Nat.reduceMod, Nat.reduceLeDiff, Nat.reduceLT, Nat.reduceEqDiff, Nat.reducePow, Nat.le_refl, Nat.add_left_cancel_iff, Nat.add_eq_left, Nat.left_eq_add, Nat.add_zero, w0, w1, w2, w3, w4]
  exact ⟨rfl, rfl⟩
theorem x_object {v w : Int32} (hd : 1 ≤ d) (R : gx_R E h x ca K F s) : gm_Ca E d 59 [.ref x, .int v, .int w] h (gx_v (some (.int (gs_object s v w))) h) := by
  show gm_W E d 59 0 [.ref x, .int v, .int w, gm_u] [] h _
  obtain ⟨A0, -, -, A8, -, -, -, -, -, A3, A3l, -⟩ := R.1
  have h4 := R.2.2.2.1.2.2.2.1
  simp only [r59_0, r59_0n, r59_1, r59_5, r59_8, r59_9, r59_10, r59_10n, r59_11, r59_14, r59_15, r59_16, r59_16n, r59_17, r59_18, r59_48, r59_48n, r59_49, r59_52, r59_53, r59_53n, r59_54, r59_57n, r59_57, r59_60, r59_61, r59_64, r59_64n, r59_65, r59_68, r59_71, r59_72, r59_72n, r59_73, r59_76, r59_77, r59_80, r59_80n, r59_81, r59_84, r59_87, r59_87n, r59_88, r59_91, r59_92, r59_93, r59_93n, r59_94, r59_97, r59_98, r59_99, i32_10, reduceIte, gm_cmp1, gm_cmp3, gm_cmp4, gm_kd_sf, gm_ln_sf, gm_sf_1, gm_sf_2, gm_nw_1, gm_nw_2, gm_k_int, gm_k_ref, gm_k_null, gm_k_u, gm_k_long, and_true, true_and, true_or, or_true, or_false, false_or, and_self, or_self, if_true, if_false, List.map_nil, List.map_cons, List.sum_nil, List.sum_cons, Nat.zero_le, Option.toList_some, Option.toList_none, List.cons_append, List.nil_append, ne_eq, not_false_eq_true, not_true_eq_false, nI_1, nI_add, Value.category, Nat.reduceAdd, Nat.reduceMod, Nat.reduceLeDiff, Nat.reduceLT, Nat.reduceEqDiff, Nat.reducePow, Nat.le_refl, Nat.add_left_cancel_iff, Nat.add_eq_left, Nat.left_eq_add, Nat.add_zero]
  refine c59_2 (by simp) A0 hd (x_isInHeap R) (gx_kn ?_) gx_kx
  unfold gs_object
  by_cases h1 : v < 0
  · simp only [r59_0, r59_0n, r59_1, r59_5, r59_8, r59_9, r59_10, r59_10n, r59_11, r59_14, r59_15, r59_16, r59_16n, r59_17, r59_18, r59_48, r59_48n, r59_49, r59_52, r59_53, r59_53n, r59_54, r59_57n, r59_57, r59_60, r59_61, r59_64, r59_64n, r59_65, r59_68, r59_71, r59_72, r59_72n, r59_73, r59_76, r59_77, r59_80, r59_80n, r59_81, r59_84, r59_87, r59_87n, r59_88, r59_91, r59_92, r59_93, r59_93n, r59_94, r59_97, r59_98, r59_99, i32_10, reduceIte, gm_cmp1, gm_cmp3, gm_cmp4, gm_kd_sf, gm_ln_sf, gm_sf_1, gm_sf_2, gm_nw_1, gm_nw_2, gm_k_int, gm_k_ref, gm_k_null, gm_k_u, gm_k_long, and_true, true_and, true_or, or_true, or_false, false_or, and_self, or_self, if_true, if_false, List.map_nil, List.map_cons, List.sum_nil, List.sum_cons, Nat.zero_le, Option.toList_some, Option.toList_none, List.cons_append, List.nil_append, ne_eq, not_false_eq_true, not_true_eq_false, nI_1, nI_add, Value.category, Nat.reduceAdd, Nat.reduceMod, Nat.reduceLeDiff, Nat.reduceLT, Nat.reduceEqDiff, Nat.reducePow, Nat.le_refl, Nat.add_left_cancel_iff, Nat.add_eq_left, Nat.left_eq_add, Nat.add_zero, h1]
    exact ⟨rfl, rfl⟩
  by_cases h2 : nI (gs_hp s).length ≤ v
  · simp only [r59_0, r59_0n, r59_1, r59_5, r59_8, r59_9, r59_10, r59_10n, r59_11, r59_14, r59_15, r59_16, r59_16n, r59_17, r59_18, r59_48, r59_48n, r59_49, r59_52, r59_53, r59_53n, r59_54, r59_57n, r59_57, r59_60, r59_61, r59_64, r59_64n, r59_65, r59_68, r59_71, r59_72, r59_72n, r59_73, r59_76, r59_77, r59_80, r59_80n, r59_81, r59_84, r59_87, r59_87n, r59_88, r59_91, r59_92, r59_93, r59_93n, r59_94, r59_97, r59_98, r59_99, i32_10, reduceIte, gm_cmp1, gm_cmp3, gm_cmp4, gm_kd_sf, gm_ln_sf, gm_sf_1, gm_sf_2, gm_nw_1, gm_nw_2, gm_k_int, gm_k_ref, gm_k_null, gm_k_u, gm_k_long, and_true, true_and, true_or, or_true, or_false, false_or, and_self, or_self, if_true, if_false, List.map_nil, List.map_cons, List.sum_nil, List.sum_cons, Nat.zero_le, Option.toList_some, Option.toList_none, List.cons_append, List.nil_append, ne_eq, not_false_eq_true, not_true_eq_false, nI_1, nI_add, Value.category, Nat.reduceAdd, Nat.reduceMod, Nat.reduceLeDiff, Nat.reduceLT, Nat.reduceEqDiff, Nat.reducePow, Nat.le_refl, Nat.add_left_cancel_iff, Nat.add_eq_left, Nat.left_eq_add, Nat.add_zero, h1, h2]
    obtain ⟨i, hi, rfl⟩ := nI_of h1
    rw [nI_leI (by omega) hi] at h2
    rw [nI_clamp hi, List.getElem?_eq_none h2]
    exact ⟨rfl, rfl⟩
  obtain ⟨i, o, t, rfl, i1, i2, i3, i4, ⟨t1, t2, t3, t4, t5, t6, t7, t8, t9, t10⟩, i6⟩ := R.look h1 h2
  rw [if_neg h1, i2, i3]
  dsimp only
  by_cases w0 : w = 0
  · subst w0
    simp (decide := true) only [r59_0, r59_0n, r59_1, r59_5, r59_8, r59_9, r59_10, r59_10n, r59_11, r59_14, r59_15, r59_16, r59_16n, r59_17, r59_18, r59_48, r59_48n, r59_49, r59_52, r59_53, r59_53n, r59_54, r59_57n, r59_57, r59_60, r59_61, r59_64, r59_64n, r59_65, r59_68, r59_71, r59_72, r59_72n, r59_73, r59_76, r59_77, r59_80, r59_80n, r59_81, r59_84, r59_87, r59_87n, r59_88, r59_91, r59_92, r59_93, r59_93n, r59_94, r59_97, r59_98, r59_99, i32_10, reduceIte, gm_cmp1, gm_cmp3, gm_cmp4, gm_kd_sf, gm_ln_sf, gm_sf_1, gm_sf_2, gm_nw_1, gm_nw_2, gm_k_int, gm_k_ref, gm_k_null, gm_k_u, gm_k_long, and_true, true_and, true_or, or_true, or_false, false_or, and_self, or_self, if_true, if_false, List.map_nil, List.map_cons, List.sum_nil, List.sum_cons, Nat.zero_le, Option.toList_some, Option.toList_none, List.cons_append, List.nil_append, ne_eq, not_false_eq_true, not_true_eq_false, nI_1, nI_add, Value.category, Nat.reduceAdd, Nat.reduceMod, Nat.reduceLeDiff, Nat.reduceLT, Nat.reduceEqDiff, Nat.reducePow, Nat.le_refl, Nat.add_left_cancel_iff, Nat.add_eq_left, Nat.left_eq_add, Nat.add_zero, h1, h2, A0, A8, A3, A3l, i1, i4, t1, t2]
    exact ⟨rfl, rfl⟩
  by_cases w1 : w = 1
  · subst w1
    cases hw : o.2.1 with
    | none =>
      rw [hw] at t3
      have t3 : gm_fv h t 1 = .null := t3
      simp (decide := true) only [r59_0, r59_0n, r59_1, r59_5, r59_8, r59_9, r59_10, r59_10n, r59_11, r59_14, r59_15, r59_16, r59_16n, r59_17, r59_18, r59_48, r59_48n, r59_49, r59_52, r59_53, r59_53n, r59_54, r59_57n, r59_57, r59_60, r59_61, r59_64, r59_64n, r59_65, r59_68, r59_71, r59_72, r59_72n, r59_73, r59_76, r59_77, r59_80, r59_80n, r59_81, r59_84, r59_87, r59_87n, r59_88, r59_91, r59_92, r59_93, r59_93n, r59_94, r59_97, r59_98, r59_99, i32_10, reduceIte, gm_cmp1, gm_cmp3, gm_cmp4, gm_kd_sf, gm_ln_sf, gm_sf_1, gm_sf_2, gm_nw_1, gm_nw_2, gm_k_int, gm_k_ref, gm_k_null, gm_k_u, gm_k_long, and_true, true_and, true_or, or_true, or_false, false_or, and_self, or_self, if_true, if_false, List.map_nil, List.map_cons, List.sum_nil, List.sum_cons, Nat.zero_le, Option.toList_some, Option.toList_none, List.cons_append, List.nil_append, ne_eq, not_false_eq_true, not_true_eq_false, nI_1, nI_add, Value.category, Nat.reduceAdd, Nat.reduceMod, Nat.reduceLeDiff, Nat.reduceLT, Nat.reduceEqDiff, Nat.reducePow, Nat.le_refl, Nat.add_left_cancel_iff, Nat.add_eq_left, Nat.left_eq_add, Nat.add_zero, h1, h2, A0, A8, A3, A3l, i1, i4, t1, t3]
      exact ⟨rfl, rfl⟩
    | some c =>
      rw [hw] at t3
      have t3 : gm_fv h t 1 = .ref (ca c) := t3
      obtain ⟨C, hC⟩ := Option.isSome_iff_exists.mp (R.2.2.2.2.2.2.1 i o c i3 hw)
      obtain ⟨-, -, -, k3, f0, -⟩ := R.2.2.1.at hC
      simp (decide := true) only [r59_0, r59_0n, r59_1, r59_5, r59_8, r59_9, r59_10, r59_10n, r59_11, r59_14, r59_15, r59_16, r59_16n, r59_17, r59_18, r59_48, r59_48n, r59_49, r59_52, r59_53, r59_53n, r59_54, r59_57n, r59_57, r59_60, r59_61, r59_64, r59_64n, r59_65, r59_68, r59_71, r59_72, r59_72n, r59_73, r59_76, r59_77, r59_80, r59_80n, r59_81, r59_84, r59_87, r59_87n, r59_88, r59_91, r59_92, r59_93, r59_93n, r59_94, r59_97, r59_98, r59_99, i32_10, reduceIte, gm_cmp1, gm_cmp3, gm_cmp4, gm_kd_sf, gm_ln_sf, gm_sf_1, gm_sf_2, gm_nw_1, gm_nw_2, gm_k_int, gm_k_ref, gm_k_null, gm_k_u, gm_k_long, and_true, true_and, true_or, or_true, or_false, false_or, and_self, or_self, if_true, if_false, List.map_nil, List.map_cons, List.sum_nil, List.sum_cons, Nat.zero_le, Option.toList_some, Option.toList_none, List.cons_append, List.nil_append, ne_eq, not_false_eq_true, not_true_eq_false, nI_1, nI_add, Value.category, Nat.reduceAdd, Nat.reduceMod, Nat.reduceLeDiff, Nat.reduceLT, Nat.reduceEqDiff, Nat.reducePow, Nat.le_refl, Nat.add_left_cancel_iff, Nat.add_eq_left, Nat.left_eq_add, Nat.add_zero, h1, h2, A0, A8, A3, A3l, i1, i4, t1, t3, k3, f0]
      exact ⟨rfl, rfl⟩
  by_cases w2 : w = 2
  · subst w2
    by_cases h4 : o.1 = 4
    · simp (decide := true) only [r59_0, r59_0n, r59_1, r59_5, r59_8, r59_9, r59_10, r59_10n, r59_11, r59_14, r59_15, r59_16, r59_16n, r59_17, r59_18, r59_48, r59_48n, r59_49, r59_52, r59_53, r59_53n, r59_54, r59_57n, r59_57, r59_60, r59_61, r59_64, r59_64n, r59_65, r59_68, r59_71, r59_72, r59_72n, r59_73, r59_76, r59_77, r59_80, r59_80n, r59_81, r59_84, r59_87, r59_87n, r59_88, r59_91, r59_92, r59_93, r59_93n, r59_94, r59_97, r59_98, r59_99, i32_10, reduceIte, gm_cmp1, gm_cmp3, gm_cmp4, gm_kd_sf, gm_ln_sf, gm_sf_1, gm_sf_2, gm_nw_1, gm_nw_2, gm_k_int, gm_k_ref, gm_k_null, gm_k_u, gm_k_long, and_true, true_and, true_or, or_true, or_false, false_or, and_self, or_self, if_true, if_false, List.map_nil, List.map_cons, List.sum_nil, List.sum_cons, Nat.zero_le, Option.toList_some, Option.toList_none, List.cons_append, List.nil_append, ne_eq, not_false_eq_true, not_true_eq_false, nI_1, nI_add, Value.category, Nat.reduceAdd, Nat.reduceMod, Nat.reduceLeDiff, Nat.reduceLT, Nat.reduceEqDiff, Nat.reducePow, Nat.le_refl, Nat.add_left_cancel_iff, Nat.add_eq_left, Nat.left_eq_add, Nat.add_zero, h1, h2, A0, A8, A3, A3l, i1, i4, t1, t2, h4, t5]
      exact ⟨rfl, rfl⟩
    · simp (decide := true) only [r59_0, r59_0n, r59_1, r59_5, r59_8, r59_9, r59_10, r59_10n, r59_11, r59_14, r59_15, r59_16, r59_16n, r59_17, r59_18, r59_48, r59_48n, r59_49, r59_52, r59_53, r59_53n, r59_54, r59_57n, r59_57, r59_60, r59_61, r59_64, r59_64n, r59_65, r59_68, r59_71, r59_72, r59_72n, r59_73, r59_76, r59_77, r59_80, r59_80n, r59_81, r59_84, r59_87, r59_87n, r59_88, r59_91, r59_92, r59_93, r59_93n, r59_94, r59_97, r59_98, r59_99, i32_10, reduceIte, gm_cmp1, gm_cmp3, gm_cmp4, gm_kd_sf, gm_ln_sf, gm_sf_1, gm_sf_2, gm_nw_1, gm_nw_2, gm_k_int, gm_k_ref, gm_k_null, gm_k_u, gm_k_long, and_true, true_and, true_or, or_true, or_false, false_or, and_self, or_self, if_true, if_false, List.map_nil, List.map_cons, List.sum_nil, List.sum_cons, Nat.zero_le, Option.toList_some, Option.toList_none, List.cons_append, List.nil_append, ne_eq, not_false_eq_true, not_true_eq_false, nI_1, nI_add, Value.category, Nat.reduceAdd, Nat.reduceMod, Nat.reduceLeDiff, Nat.reduceLT, Nat.reduceEqDiff, Nat.reducePow, Nat.le_refl, Nat.add_left_cancel_iff, Nat.add_eq_left, Nat.left_eq_add, Nat.add_zero, h1, h2, A0, A8, A3, A3l, i1, i4, t1, t2, h4, t4, t7, t8]
      exact ⟨rfl, rfl⟩
  by_cases w3 : w = 3
  · subst w3
    simp (decide := true) only [r59_0, r59_0n, r59_1, r59_5, r59_8, r59_9, r59_10, r59_10n, r59_11, r59_14, r59_15, r59_16, r59_16n, r59_17, r59_18, r59_48, r59_48n, r59_49, r59_52, r59_53, r59_53n, r59_54, r59_57n, r59_57, r59_60, r59_61, r59_64, r59_64n, r59_65, r59_68, r59_71, r59_72, r59_72n, r59_73, r59_76, r59_77, r59_80, r59_80n, r59_81, r59_84, r59_87, r59_87n, r59_88, r59_91, r59_92, r59_93, r59_93n, r59_94, r59_97, r59_98, r59_99, i32_10, reduceIte, gm_cmp1, gm_cmp3, gm_cmp4, gm_kd_sf, gm_ln_sf, gm_sf_1, gm_sf_2, gm_nw_1, gm_nw_2, gm_k_int, gm_k_ref, gm_k_null, gm_k_u, gm_k_long, and_true, true_and, true_or, or_true, or_false, false_or, and_self, or_self, if_true, if_false, List.map_nil, List.map_cons, List.sum_nil, List.sum_cons, Nat.zero_le, Option.toList_some, Option.toList_none, List.cons_append, List.nil_append, ne_eq, not_false_eq_true, not_true_eq_false, nI_1, nI_add, Value.category, Nat.reduceAdd, Nat.reduceMod, Nat.reduceLeDiff, Nat.reduceLT, Nat.reduceEqDiff, Nat.reducePow, Nat.le_refl, Nat.add_left_cancel_iff, Nat.add_eq_left, Nat.left_eq_add, Nat.add_zero, h1, h2, A0, A8, A3, A3l, i1, i4, t1, t6]
    exact ⟨rfl, rfl⟩
  simp only [r59_0, r59_0n, r59_1, r59_5, r59_8, r59_9, r59_10, r59_10n, r59_11, r59_14, r59_15, r59_16, r59_16n, r59_17, r59_18, r59_48, r59_48n, r59_49, r59_52, r59_53, r59_53n, r59_54, r59_57n, r59_57, r59_60, r59_61, r59_64, r59_64n, r59_65, r59_68, r59_71, r59_72, r59_72n, r59_73, r59_76, r59_77, r59_80, r59_80n, r59_81, r59_84, r59_87, r59_87n, r59_88, r59_91, r59_92, r59_93, r59_93n, r59_94, r59_97, r59_98, r59_99, i32_10, reduceIte, gm_cmp1, gm_cmp3, gm_cmp4, gm_kd_sf, gm_ln_sf, gm_sf_1, gm_sf_2, gm_nw_1, gm_nw_2, gm_k_int, gm_k_ref, gm_k_null, gm_k_u, gm_k_long, and_true, true_and, true_or, or_true, or_false, false_or, and_self, or_self, if_true, if_false, List.map_nil, List.map_cons, List.sum_nil, List.sum_cons, Nat.zero_le, Option.toList_some, Option.toList_none, List.cons_append, List.nil_append, ne_eq, not_false_eq_true, not_true_eq_false, nI_1, nI_add, Value.category, Nat.reduceAdd, Nat.reduceMod, Nat.reduceLeDiff, Nat.reduceLT, Nat.reduceEqDiff, Nat.reducePow, Nat.le_refl, Nat.add_left_cancel_iff, Nat.add_eq_left, Nat.left_eq_add, Nat.add_zero, h1, h2, A0, A8, A3, A3l, i1, i4, w0, w1, w2, w3]
  exact ⟨rfl, rfl⟩
theorem x_value {v k : Int32} (hd : 1 ≤ d) (R : gx_R E h x ca K F s) : gm_Ca E d 60 [.ref x, .int v, .int k] h (gx_v (some (.long (gs_value s v k))) h) := by
  show gm_W E d 60 0 [.ref x, .int v, .int k] [] h _
  obtain ⟨A0, -, -, A8, -, -, -, -, -, A3, A3l, -⟩ := R.1
  have h4 := R.2.2.2.1.2.2.2.1
  simp only [r60_0, r60_0n, r60_1, r60_5, r60_8, r60_9, r60_12, r60_13, r60_13n, r60_14, r60_17, r60_18, r60_19, r60_22, r60_23, r60_26, r60_29, r60_30, r60_30n, r60_31, r60_34, r60_35, r60_36, r60_39, r60_40, r60_41, i32_10, reduceIte, gm_cmp1, gm_cmp3, gm_cmp4, gm_kd_sf, gm_ln_sf, gm_sf_1, gm_sf_2, gm_nw_1, gm_nw_2, gm_k_int, gm_k_ref, gm_k_null, gm_k_u, gm_k_long, and_true, true_and, true_or, or_true, or_false, false_or, and_self, or_self, if_true, if_false, List.map_nil, List.map_cons, List.sum_nil, List.sum_cons, Nat.zero_le, Option.toList_some, Option.toList_none, List.cons_append, List.nil_append, ne_eq, not_false_eq_true, not_true_eq_false, nI_1, nI_add, Value.category, Nat.reduceAdd, Nat.reduceMod, Nat.reduceLeDiff, Nat.reduceLT, Nat.reduceEqDiff, Nat.reducePow, Nat.le_refl, Nat.add_left_cancel_iff, Nat.add_eq_left, Nat.left_eq_add, Nat.add_zero]
  refine c60_2 (by simp) A0 hd (x_isInHeap R) (gx_kn ?_) gx_kx
  unfold gs_value
  by_cases h1 : v < 0
  · simp only [r60_0, r60_0n, r60_1, r60_5, r60_8, r60_9, r60_12, r60_13, r60_13n, r60_14, r60_17, r60_18, r60_19, r60_22, r60_23, r60_26, r60_29, r60_30, r60_30n, r60_31, r60_34, r60_35, r60_36, r60_39, r60_40, r60_41, i32_10, reduceIte, gm_cmp1, gm_cmp3, gm_cmp4, gm_kd_sf, gm_ln_sf, gm_sf_1, gm_sf_2, gm_nw_1, gm_nw_2, gm_k_int, gm_k_ref, gm_k_null, gm_k_u, gm_k_long, and_true, true_and, true_or, or_true, or_false, false_or, and_self, or_self, if_true, if_false, List.map_nil, List.map_cons, List.sum_nil, List.sum_cons, Nat.zero_le, Option.toList_some, Option.toList_none, List.cons_append, List.nil_append, ne_eq, not_false_eq_true, not_true_eq_false, nI_1, nI_add, Value.category, Nat.reduceAdd, Nat.reduceMod, Nat.reduceLeDiff, Nat.reduceLT, Nat.reduceEqDiff, Nat.reducePow, Nat.le_refl, Nat.add_left_cancel_iff, Nat.add_eq_left, Nat.left_eq_add, Nat.add_zero, h1]
    exact ⟨rfl, rfl⟩
  by_cases h2 : nI (gs_hp s).length ≤ v
  · simp only [r60_0, r60_0n, r60_1, r60_5, r60_8, r60_9, r60_12, r60_13, r60_13n, r60_14, r60_17, r60_18, r60_19, r60_22, r60_23, r60_26, r60_29, r60_30, r60_30n, r60_31, r60_34, r60_35, r60_36, r60_39, r60_40, r60_41, i32_10, reduceIte, gm_cmp1, gm_cmp3, gm_cmp4, gm_kd_sf, gm_ln_sf, gm_sf_1, gm_sf_2, gm_nw_1, gm_nw_2, gm_k_int, gm_k_ref, gm_k_null, gm_k_u, gm_k_long, and_true, true_and, true_or, or_true, or_false, false_or, and_self, or_self, if_true, if_false, List.map_nil, List.map_cons, List.sum_nil, List.sum_cons, Nat.zero_le, Option.toList_some, Option.toList_none, List.cons_append, List.nil_append, ne_eq, not_false_eq_true, not_true_eq_false, nI_1, nI_add, Value.category, Nat.reduceAdd, Nat.reduceMod, Nat.reduceLeDiff, Nat.reduceLT, Nat.reduceEqDiff, Nat.reducePow, Nat.le_refl, Nat.add_left_cancel_iff, Nat.add_eq_left, Nat.left_eq_add, Nat.add_zero, h1, h2]
    obtain ⟨i, hi, rfl⟩ := nI_of h1
    rw [nI_leI (by omega) hi] at h2
    rw [nI_clamp hi, List.getElem?_eq_none h2]
    by_cases k0 : k < 0 <;> simp only [k0, reduceIte] <;> exact ⟨rfl, rfl⟩
  obtain ⟨i, o, t, rfl, i1, i2, i3, i4, ⟨t1, t2, t3, t4, t5, t6, t7, t8, t9, t10⟩, i6⟩ := R.look h1 h2
  by_cases k0 : k < 0
  · simp only [r60_0, r60_0n, r60_1, r60_5, r60_8, r60_9, r60_12, r60_13, r60_13n, r60_14, r60_17, r60_18, r60_19, r60_22, r60_23, r60_26, r60_29, r60_30, r60_30n, r60_31, r60_34, r60_35, r60_36, r60_39, r60_40, r60_41, i32_10, reduceIte, gm_cmp1, gm_cmp3, gm_cmp4, gm_kd_sf, gm_ln_sf, gm_sf_1, gm_sf_2, gm_nw_1, gm_nw_2, gm_k_int, gm_k_ref, gm_k_null, gm_k_u, gm_k_long, and_true, true_and, true_or, or_true, or_false, false_or, and_self, or_self, if_true, if_false, List.map_nil, List.map_cons, List.sum_nil, List.sum_cons, Nat.zero_le, Option.toList_some, Option.toList_none, List.cons_append, List.nil_append, ne_eq, not_false_eq_true, not_true_eq_false, nI_1, nI_add, Value.category, Nat.reduceAdd, Nat.reduceMod, Nat.reduceLeDiff, Nat.reduceLT, Nat.reduceEqDiff, Nat.reducePow, Nat.le_refl, Nat.add_left_cancel_iff, Nat.add_eq_left, Nat.left_eq_add, Nat.add_zero, h1, h2, k0]
    exact ⟨rfl, rfl⟩
  rw [if_neg (show ¬ (nI i < 0 ∨ k < 0) from fun z => z.elim h1 k0), i2, i3]
  dsimp only
  obtain ⟨m, hm, rfl⟩ := nI_of k0
  rw [nI_clamp hm]
  by_cases hl : m < o.2.2.1.length
  · have hl31 : o.2.2.1.length < 2147483648 := by omega
    have f := t10 m _ (List.getElem?_eq_getElem hl)
    have eg : o.2.2.1.getD m (-9000000000000000000) = o.2.2.1[m] := by rw [List.getD_eq_getElem?_getD, List.getElem?_eq_getElem hl]; rfl
    simp only [r60_0, r60_0n, r60_1, r60_5, r60_8, r60_9, r60_12, r60_13, r60_13n, r60_14, r60_17, r60_18, r60_19, r60_22, r60_23, r60_26, r60_29, r60_30, r60_30n, r60_31, r60_34, r60_35, r60_36, r60_39, r60_40, r60_41, i32_10, reduceIte, gm_cmp1, gm_cmp3, gm_cmp4, gm_kd_sf, gm_ln_sf, gm_sf_1, gm_sf_2, gm_nw_1, gm_nw_2, gm_k_int, gm_k_ref, gm_k_null, gm_k_u, gm_k_long, and_true, true_and, true_or, or_true, or_false, false_or, and_self, or_self, if_true, if_false, List.map_nil, List.map_cons, List.sum_nil, List.sum_cons, Nat.zero_le, Option.toList_some, Option.toList_none, List.cons_append, List.nil_append, ne_eq, not_false_eq_true, not_true_eq_false, nI_1, nI_add, Value.category, Nat.reduceAdd, Nat.reduceMod, Nat.reduceLeDiff, Nat.reduceLT, Nat.reduceEqDiff, Nat.reducePow, Nat.le_refl, Nat.add_left_cancel_iff, Nat.add_eq_left, Nat.left_eq_add, Nat.add_zero, h1, h2, k0, A0, A8, A3, A3l, i1, i4, t1, t4, t7, t8, nI_ltT hl (show o.2.2.1.length < 2 ^ 31 by omega), hl, hl31, f, eg]
    exact ⟨rfl, rfl⟩
  · have eg : o.2.2.1.getD m (-9000000000000000000) = -9000000000000000000 := by rw [List.getD_eq_getElem?_getD, List.getElem?_eq_none (by omega)]; rfl
    simp only [r60_0, r60_0n, r60_1, r60_5, r60_8, r60_9, r60_12, r60_13, r60_13n, r60_14, r60_17, r60_18, r60_19, r60_22, r60_23, r60_26, r60_29, r60_30, r60_30n, r60_31, r60_34, r60_35, r60_36, r60_39, r60_40, r60_41, i32_10, reduceIte, gm_cmp1, gm_cmp3, gm_cmp4, gm_kd_sf, gm_ln_sf, gm_sf_1, gm_sf_2, gm_nw_1, gm_nw_2, gm_k_int, gm_k_ref, gm_k_null, gm_k_u, gm_k_long, and_true, true_and, true_or, or_true, or_false, false_or, and_self, or_self, if_true, if_false, List.map_nil, List.map_cons, List.sum_nil, List.sum_cons, Nat.zero_le, Option.toList_some, Option.toList_none, List.cons_append, List.nil_append, ne_eq, not_false_eq_true, not_true_eq_false, nI_1, nI_add, Value.category, Nat.reduceAdd, Nat.reduceMod, Nat.reduceLeDiff, Nat.reduceLT, Nat.reduceEqDiff, Nat.reducePow, Nat.le_refl, Nat.add_left_cancel_iff, Nat.add_eq_left, Nat.left_eq_add, Nat.add_zero, h1, h2, k0, A0, A8, A3, A3l, i1, i4, t1, t4, t7, t8, nI_ltF (show o.2.2.1.length ≤ m by omega) hm, eg]
    exact ⟨rfl, rfl⟩
/-- nothing in heap and handles -/
theorem gx_R.mpt {p : Nat} (R : gx_R E h x ca K F s) (hp : p ≤ gs_n K) : gx_R E (gm_sf (gm_sf (gm_sf (gm_sf h x 7 (.int (nI p))) x 9 (.int (nI 0))) (x + 4) 2 (.int (nI 0))) (x + 4) 3 (.int (nI 0))) x ca K F (p, [], [], 0) := by
  have l0 : gm_ln h x = 13 := R.len.1
  have l4 : gm_ln h (x + 4) = 4 := R.len.2
  obtain ⟨A, B, C, M, -, -⟩ := R
  have hf : ∀ b j, (b ≠ x ∨ (j ≠ 7 ∧ j ≠ 9)) → (b ≠ x + 4 ∨ (j ≠ 2 ∧ j ≠ 3)) → gm_fv (gm_sf (gm_sf (gm_sf (gm_sf h x 7 (.int (nI p))) x 9 (.int (nI 0))) (x + 4) 2 (.int (nI 0))) (x + 4) 3 (.int (nI 0))) b j = gm_fv h b j := by
    intro b j h0 h4
    have e1 : ∀ (hh : gm_H) (k : Nat) (v : Value), (k = 2 ∨ k = 3) → gm_fv (gm_sf hh (x + 4) k v) b j = gm_fv hh b j := fun hh k v hk => by
      rcases h4 with z | z
      · exact gm_fv_sfa z
      · exact gm_fv_sfj (by omega)
    have e2 : ∀ (hh : gm_H) (k : Nat) (v : Value), (k = 7 ∨ k = 9) → gm_fv (gm_sf hh x k v) b j = gm_fv hh b j := fun hh k v hk => by
      rcases h0 with z | z
      · exact gm_fv_sfa z
      · exact gm_fv_sfj (by omega)
    rw [e1 _ _ _ (Or.inr rfl), e1 _ _ _ (Or.inl rfl), e2 _ _ _ (Or.inr rfl), e2 _ _ _ (Or.inl rfl)]
  have g : gx_ag h (gm_sf (gm_sf (gm_sf (gm_sf h x 7 (.int (nI p))) x 9 (.int (nI 0))) (x + 4) 2 (.int (nI 0))) (x + 4) 3 (.int (nI 0))) x F := ((gx_ag.sf (gx_ok.no (by omega))).trans (gx_ag.sf (gx_ok.no (by omega)))).trans (gx_ag.sf (gx_ok.no (by omega))) |>.trans (gx_ag.sf (gx_ok.no (by omega)))
  obtain ⟨z1, z2, z3, z4, z5, z6, z7, z8, z9⟩ := M
  refine ⟨?_, ?_, C.tr g (fun c _ => hf _ _ (Or.inl (by omega)) (Or.inl (by omega))), ⟨?_, hp, ?_, Nat.zero_le _, ?_, ?_, Nat.le_refl _, Nat.zero_le _, ?_⟩, ⟨fun _ => 0, fun i j _ hj => absurd hj (Nat.not_lt_zero _), fun i o hi => ?_⟩, fun i e hi => ?_, fun i o c hi => ?_, fun i e hi => ?_⟩
  · unfold gx_A at A ⊢
    simp only [gm_kd_sf, gm_ln_sf, gm_sf_1, hf x 4 (Or.inr (by decide)) (Or.inl (by omega)), hf x 5 (Or.inr (by decide)) (Or.inl (by omega)), hf x 8 (Or.inr (by decide)) (Or.inl (by omega)), hf x 10 (Or.inr (by decide)) (Or.inl (by omega)), hf (x + 4) 0 (Or.inl (by omega)) (Or.inr (by decide)), hf (x + 4) 1 (Or.inl (by omega)) (Or.inr (by decide))]
    exact A
  · unfold gx_B at B ⊢
    simp only [hf x 0 (Or.inr (by decide)) (Or.inl (by omega)), hf x 1 (Or.inr (by decide)) (Or.inl (by omega)), hf x 2 (Or.inr (by decide)) (Or.inl (by omega)), hf x 3 (Or.inr (by decide)) (Or.inl (by omega)), hf x 6 (Or.inr (by decide)) (Or.inl (by omega)), hf (x + 2) _ (Or.inl (by omega)) (Or.inl (by omega))]
    exact B
  · rw [gm_fv_sfa (by omega), gm_fv_sfa (by omega), gm_fv_sfj (by decide), gm_fv_sf (by omega)]; rfl
  · rw [gm_fv_sfa (by omega), gm_fv_sfa (by omega), gm_fv_sf (by simp only [gm_ln_sf]; omega)]; rfl
  · rw [gm_fv_sfj (by decide), gm_fv_sf (by simp only [gm_ln_sf]; omega)]; rfl
  · rw [gm_fv_sf (by simp only [gm_ln_sf]; omega)]; rfl
  · rw [hf _ _ (Or.inr (by decide)) (Or.inl (by omega))]; exact z9
  · simp [gs_hp] at hi
  · simp [gs_hs] at hi
  · simp [gs_hp] at hi
  · simp [gs_hs] at hi
def gs_begin (K : gs_K) : Int32 × Nat × Int32 := if gs_n K < 4 then (-3, 0, -3) else if (gs_num K 0 4).toInt32 ≠ -1393754107 then (-4, 0, -4) else (4, 4, 0)
theorem x_begin (hd : 1 ≤ d) (X : gx_X E h x ca K s lf) : gm_Ca E d 56 [.ref x] h (fun r h' => r = .inl (some (.int (gs_begin K).1)) ∧ gx_X E h' x ca K ((gs_begin K).2.1, [], [], 0) (gs_begin K).2.2 ∧ h'.1 = h.1 ∧ h'.2.1 = h.2.1) := by
  obtain ⟨R, f11⟩ := X
  have l0 : gm_ln h x = 13 := R.len.1
  obtain ⟨A0, -, -, -, A10, -, -, -, -, -, -, A4, -⟩ := R.1
  have B6 := R.2.1.2.2.2.2.1
  have hn7 := R.2.1.2.2.2.2.2.1
  have n107 : (10 : Nat) ≠ 7 := by decide
  have n109 : (10 : Nat) ≠ 9 := by decide
  show gm_W E d 56 0 [.ref x] [] h _
  simp only [r56_0, r56_0n, r56_1, r56_2, r56_5, r56_5n, r56_6, r56_7, r56_10, r56_10n, r56_11, r56_14, r56_15, r56_19, r56_19n, r56_20, r56_21, r56_24, r56_24n, r56_25, r56_28, r56_29, r56_32, r56_32n, r56_33, r56_35, r56_38, r56_40, r56_41, r56_41n, r56_42, r56_43, r56_47, r56_48, r56_50, r56_53, r56_53n, r56_54, r56_56, r56_59, r56_61, r56_62, r56_62n, r56_63, r56_64, r56_67, r56_67n, r56_68, r56_71, i32_10, reduceIte, gm_cmp1, gm_cmp3, gm_cmp4, gm_kd_sf, gm_ln_sf, gm_sf_1, gm_sf_2, gm_nw_1, gm_nw_2, gm_k_int, gm_k_ref, gm_k_null, gm_k_u, gm_k_long, and_true, true_and, true_or, or_true, or_false, false_or, and_self, or_self, if_true, if_false, List.map_nil, List.map_cons, List.sum_nil, List.sum_cons, Nat.zero_le, Option.toList_some, Option.toList_none, List.cons_append, List.nil_append, ne_eq, not_false_eq_true, not_true_eq_false, nI_1, nI_add, Value.category, Nat.reduceAdd, Nat.reduceMod, Nat.reduceLeDiff, Nat.reduceLT, Nat.reduceEqDiff, Nat.reducePow, Nat.le_refl, Nat.add_left_cancel_iff, Nat.add_eq_left, Nat.left_eq_add, Nat.add_zero, A0, gm_fv_sfj n107, gm_fv_sfj n109, A10]
  refine c56_16 (by simp) (by simp only [gm_kd_sf]; exact A4) hd (x_rewind (x := x + 4) (f := 0) (m := 0) (hk := by simp only [gm_kd_sf]; exact A4) _ _) (gx_kn ?_) gx_kx
  have RB := R.mpt (p := 0) (Nat.zero_le _)
  obtain ⟨hB, hBe⟩ : ∃ hB, hB = gm_sf (gm_sf (gm_sf (gm_sf h x 7 (.int 0)) x 9 (.int 0)) (x + 4) 2 (.int 0)) (x + 4) 3 (.int 0) := ⟨_, rfl⟩
  rw [← hBe]
  have RB : gx_R E hB x ca K (fun _ => False) (0, [], [], 0) := by rw [hBe]; exact RB
  have cB : hB.1 = h.1 ∧ hB.2.1 = h.2.1 := by rw [hBe]; simp only [gm_sf_1, gm_sf_2, and_self]
  clear hBe
  have RC := RB.last (v := 0)
  have kB := RB.1.1
  have lB : gm_ln hB x = 13 := RB.len.1
  have n6 : (6 : Nat) ≠ 11 := by decide
  have f6 : gm_fv hB x 6 = .int (nI (gs_n K)) := RB.2.1.2.2.2.2.1
  unfold gs_begin
  by_cases h4 : gs_n K < 4
  · have e4 : ¬ (4 : Int32) ≤ nI (gs_n K) := nI_ge (b := 4) h4 (by decide)
    simp only [r56_0, r56_0n, r56_1, r56_2, r56_5, r56_5n, r56_6, r56_7, r56_10, r56_10n, r56_11, r56_14, r56_15, r56_19, r56_19n, r56_20, r56_21, r56_24, r56_24n, r56_25, r56_28, r56_29, r56_32, r56_32n, r56_33, r56_35, r56_38, r56_40, r56_41, r56_41n, r56_42, r56_43, r56_47, r56_48, r56_50, r56_53, r56_53n, r56_54, r56_56, r56_59, r56_61, r56_62, r56_62n, r56_63, r56_64, r56_67, r56_67n, r56_68, r56_71, i32_10, reduceIte, gm_cmp1, gm_cmp3, gm_cmp4, gm_kd_sf, gm_ln_sf, gm_sf_1, gm_sf_2, gm_nw_1, gm_nw_2, gm_k_int, gm_k_ref, gm_k_null, gm_k_u, gm_k_long, and_true, true_and, true_or, or_true, or_false, false_or, and_self, or_self, if_true, if_false, List.map_nil, List.map_cons, List.sum_nil, List.sum_cons, Nat.zero_le, Option.toList_some, Option.toList_none, List.cons_append, List.nil_append, ne_eq, not_false_eq_true, not_true_eq_false, nI_1, nI_add, Value.category, Nat.reduceAdd, Nat.reduceMod, Nat.reduceLeDiff, Nat.reduceLT, Nat.reduceEqDiff, Nat.reducePow, Nat.le_refl, Nat.add_left_cancel_iff, Nat.add_eq_left, Nat.left_eq_add, Nat.add_zero, kB, gm_fv_sfj n6, f6, e4, h4]
    exact ⟨⟨RC.last, gm_fv_sf (by rw [gm_ln_sf]; omega)⟩, cB⟩
  have e4 : (4 : Int32) ≤ nI (gs_n K) := nI_le (a := 4) (by omega) (by omega)
  simp only [r56_0, r56_0n, r56_1, r56_2, r56_5, r56_5n, r56_6, r56_7, r56_10, r56_10n, r56_11, r56_14, r56_15, r56_19, r56_19n, r56_20, r56_21, r56_24, r56_24n, r56_25, r56_28, r56_29, r56_32, r56_32n, r56_33, r56_35, r56_38, r56_40, r56_41, r56_41n, r56_42, r56_43, r56_47, r56_48, r56_50, r56_53, r56_53n, r56_54, r56_56, r56_59, r56_61, r56_62, r56_62n, r56_63, r56_64, r56_67, r56_67n, r56_68, r56_71, i32_10, reduceIte, gm_cmp1, gm_cmp3, gm_cmp4, gm_kd_sf, gm_ln_sf, gm_sf_1, gm_sf_2, gm_nw_1, gm_nw_2, gm_k_int, gm_k_ref, gm_k_null, gm_k_u, gm_k_long, and_true, true_and, true_or, or_true, or_false, false_or, and_self, or_self, if_true, if_false, List.map_nil, List.map_cons, List.sum_nil, List.sum_cons, Nat.zero_le, Option.toList_some, Option.toList_none, List.cons_append, List.nil_append, ne_eq, not_false_eq_true, not_true_eq_false, nI_1, nI_add, Value.category, Nat.reduceAdd, Nat.reduceMod, Nat.reduceLeDiff, Nat.reduceLT, Nat.reduceEqDiff, Nat.reducePow, Nat.le_refl, Nat.add_left_cancel_iff, Nat.add_eq_left, Nat.left_eq_add, Nat.add_zero, kB, gm_fv_sfj n6, f6, e4, h4]
  refine c56_44 (by simp) (by simp only [gm_kd_sf]; exact kB) hd (x_numberAt (a := 0) (z := 4) RC (by omega)) (gx_kn ?_) gx_kx
  by_cases hh : (gs_num K 0 4).toInt32 = -1393754107
  · have n7 : (7 : Nat) ≠ 11 := by decide
    have f7 : gm_fv (gm_sf (gm_sf hB x 11 (.int 0)) x 7 (.int 4)) x 7 = .int 4 := gm_fv_sf (by rw [gm_ln_sf]; omega)
    simp only [r56_0, r56_0n, r56_1, r56_2, r56_5, r56_5n, r56_6, r56_7, r56_10, r56_10n, r56_11, r56_14, r56_15, r56_19, r56_19n, r56_20, r56_21, r56_24, r56_24n, r56_25, r56_28, r56_29, r56_32, r56_32n, r56_33, r56_35, r56_38, r56_40, r56_41, r56_41n, r56_42, r56_43, r56_47, r56_48, r56_50, r56_53, r56_53n, r56_54, r56_56, r56_59, r56_61, r56_62, r56_62n, r56_63, r56_64, r56_67, r56_67n, r56_68, r56_71, i32_10, reduceIte, gm_cmp1, gm_cmp3, gm_cmp4, gm_kd_sf, gm_ln_sf, gm_sf_1, gm_sf_2, gm_nw_1, gm_nw_2, gm_k_int, gm_k_ref, gm_k_null, gm_k_u, gm_k_long, and_true, true_and, true_or, or_true, or_false, false_or, and_self, or_self, if_true, if_false, List.map_nil, List.map_cons, List.sum_nil, List.sum_cons, Nat.zero_le, Option.toList_some, Option.toList_none, List.cons_append, List.nil_append, ne_eq, not_false_eq_true, not_true_eq_false, nI_1, nI_add, Value.category, Nat.reduceAdd, Nat.reduceMod, Nat.reduceLeDiff, Nat.reduceLT, Nat.reduceEqDiff, Nat.reducePow, Nat.le_refl, Nat.add_left_cancel_iff, Nat.add_eq_left, Nat.left_eq_add, Nat.add_zero, kB, hh, f7]
    have RD := RC.place (p := 4) (by omega)
    exact ⟨⟨RD, by rw [gm_fv_sfj (by decide)]; exact gm_fv_sf (by omega)⟩, cB⟩
  · simp only [r56_0, r56_0n, r56_1, r56_2, r56_5, r56_5n, r56_6, r56_7, r56_10, r56_10n, r56_11, r56_14, r56_15, r56_19, r56_19n, r56_20, r56_21, r56_24, r56_24n, r56_25, r56_28, r56_29, r56_32, r56_32n, r56_33, r56_35, r56_38, r56_40, r56_41, r56_41n, r56_42, r56_43, r56_47, r56_48, r56_50, r56_53, r56_53n, r56_54, r56_56, r56_59, r56_61, r56_62, r56_62n, r56_63, r56_64, r56_67, r56_67n, r56_68, r56_71, i32_10, reduceIte, gm_cmp1, gm_cmp3, gm_cmp4, gm_kd_sf, gm_ln_sf, gm_sf_1, gm_sf_2, gm_nw_1, gm_nw_2, gm_k_int, gm_k_ref, gm_k_null, gm_k_u, gm_k_long, and_true, true_and, true_or, or_true, or_false, false_or, and_self, or_self, if_true, if_false, List.map_nil, List.map_cons, List.sum_nil, List.sum_cons, Nat.zero_le, Option.toList_some, Option.toList_none, List.cons_append, List.nil_append, ne_eq, not_false_eq_true, not_true_eq_false, nI_1, nI_add, Value.category, Nat.reduceAdd, Nat.reduceMod, Nat.reduceLeDiff, Nat.reduceLT, Nat.reduceEqDiff, Nat.reducePow, Nat.le_refl, Nat.add_left_cancel_iff, Nat.add_eq_left, Nat.left_eq_add, Nat.add_zero, kB, hh]
    exact ⟨⟨RC.last, gm_fv_sf (by rw [gm_ln_sf]; omega)⟩, cB⟩
end Z4
