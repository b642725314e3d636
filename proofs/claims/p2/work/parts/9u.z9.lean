/-! THE CLASS, 26: field, passBlock. -/
section Z9
variable {E : Nat → Value} {d x b : Nat} {h h' : gm_H} {ca ca' : Nat → Nat} {K K' : gs_K} {F G : Nat → Prop} {s : gs_S} {lf : Int32}
def gs_fld (K : gs_K) (s : gs_S) (n nm t : Int32) : Int32 × gs_K := match gs_cn K n with
  | none => (-1, K)
  | some c => match gs_cls K c with
    | none => (-1, K)
    | some C => if gs_kind C = 3 ∨ (nm < 0 ∨ 26 ≤ nm) ∨ t < 0 ∨ 7 < t ∨ gs_hp s ≠ [] ∨ (gs_fs C).length = 4 ∨ (gs_ix (gs_fs C) nm).isSome = true then (-1, K) else (nI ((gs_fs C).length + 1), gs_def1 K c (C.1, C.2.1, C.2.2.1, gs_fs C ++ [(nm, t)], C.2.2.2.2))
theorem x_field {n nm t : Int32} (hd : 1 ≤ d) (X : gx_X E h x ca K s lf) : gm_Ca E d 53 [.ref x, .int n, .int nm, .int t] h (fun r h' => r = .inl (some (.int (gs_fld K s n nm t).1)) ∧ gx_X E h' x ca (gs_fld K s n nm t).2 s lf ∧ h'.1 = h.1 ∧ h'.2.1 = h.2.1) := by
  have R := X.1
  obtain ⟨z1, z2, z3, z4, z5, z6, z7, z8, z9⟩ := R.2.2.2.1
  show gm_W E d 53 0 [.ref x, .int n, .int nm, .int t, gm_u] [] h _
  simp only [r53_0, r53_0n, r53_1, r53_5, r53_5n, r53_7, r53_7n, r53_9n, r53_9, r53_12, r53_12n, r53_14, r53_17, r53_18, r53_21, r53_25, r53_28, r53_29, r53_32, r53_33, r53_35, r53_38, r53_39, r53_40, r53_40n, r53_41, r53_44, r53_47, r53_47n, r53_49, r53_52, r53_53, r53_56, r53_56n, r53_58, r53_62, r53_65, r53_66, r53_67, r53_67n, r53_69, r53_70, r53_74, r53_74n, r53_76, r53_79, i32_10, reduceIte, gm_cmp1, gm_cmp3, gm_cmp4, gm_kd_sf, gm_ln_sf, gm_sf_1, gm_sf_2, gm_nw_1, gm_nw_2, gm_k_int, gm_k_ref, gm_k_null, gm_k_u, gm_k_long, and_true, true_and, true_or, or_true, or_false, false_or, and_self, or_self, if_true, if_false, List.map_nil, List.map_cons, List.sum_nil, List.sum_cons, Nat.zero_le, Option.toList_some, Option.toList_none, List.cons_append, List.nil_append, ne_eq, not_false_eq_true, not_true_eq_false, nI_1, nI_add, Value.category, Nat.reduceAdd, Nat.reduceMod, Nat.reduceLeDiff, Nat.reduceLT, Nat.reduceEqDiff, Nat.reducePow, Nat.le_refl, Nat.add_left_cancel_iff, Nat.add_eq_left, Nat.left_eq_add, Nat.add_zero]
  refine c53_2 (by simp) R.1.1 hd (x_classNumbered R) (gx_kn ?_) gx_kx
  unfold gs_fld
  cases e : gs_cn K n with
  | none =>
    simp only [r53_0, r53_0n, r53_1, r53_5, r53_5n, r53_7, r53_7n, r53_9n, r53_9, r53_12, r53_12n, r53_14, r53_17, r53_18, r53_21, r53_25, r53_28, r53_29, r53_32, r53_33, r53_35, r53_38, r53_39, r53_40, r53_40n, r53_41, r53_44, r53_47, r53_47n, r53_49, r53_52, r53_53, r53_56, r53_56n, r53_58, r53_62, r53_65, r53_66, r53_67, r53_67n, r53_69, r53_70, r53_74, r53_74n, r53_76, r53_79, i32_10, reduceIte, gm_cmp1, gm_cmp3, gm_cmp4, gm_kd_sf, gm_ln_sf, gm_sf_1, gm_sf_2, gm_nw_1, gm_nw_2, gm_k_int, gm_k_ref, gm_k_null, gm_k_u, gm_k_long, and_true, true_and, true_or, or_true, or_false, false_or, and_self, or_self, if_true, if_false, List.map_nil, List.map_cons, List.sum_nil, List.sum_cons, Nat.zero_le, Option.toList_some, Option.toList_none, List.cons_append, List.nil_append, ne_eq, not_false_eq_true, not_true_eq_false, nI_1, nI_add, Value.category, Nat.reduceAdd, Nat.reduceMod, Nat.reduceLeDiff, Nat.reduceLT, Nat.reduceEqDiff, Nat.reducePow, Nat.le_refl, Nat.add_left_cancel_iff, Nat.add_eq_left, Nat.left_eq_add, Nat.add_zero, gx_ow]
    exact X
  | some c =>
    obtain ⟨C, hC⟩ := Option.isSome_iff_exists.mp (gs_cn_some e)
    have q := (R.2.2.1.at hC).2.2
    have q' := q
    obtain ⟨p0, k3, p2, p3, p4, p5, p6, p7, p8, p9, p10, p11, p12, p13, p14, p15, p16⟩ := q'
    have lc : gm_ln h (ca c) = 9 := gm_kd_ln k3 (by decide)
    dsimp only
    rw [hC]
    dsimp only
    obtain ⟨Q, hQ⟩ : ∃ Q : gm_R → gm_H → Prop, Q = (fun r h' => r = .inl (some (.int (if gs_kind C = 3 ∨ (nm < 0 ∨ 26 ≤ nm) ∨ t < 0 ∨ 7 < t ∨ gs_hp s ≠ [] ∨ (gs_fs C).length = 4 ∨ (gs_ix (gs_fs C) nm).isSome = true then (-1, K) else (nI ((gs_fs C).length + 1), gs_def1 K c (C.1, C.2.1, C.2.2.1, gs_fs C ++ [(nm, t)], C.2.2.2.2))).1)) ∧ gx_X E h' x ca (if gs_kind C = 3 ∨ (nm < 0 ∨ 26 ≤ nm) ∨ t < 0 ∨ 7 < t ∨ gs_hp s ≠ [] ∨ (gs_fs C).length = 4 ∨ (gs_ix (gs_fs C) nm).isSome = true then (-1, K) else (nI ((gs_fs C).length + 1), gs_def1 K c (C.1, C.2.1, C.2.2.1, gs_fs C ++ [(nm, t)], C.2.2.2.2))).2 s lf ∧ h'.1 = h.1 ∧ h'.2.1 = h.2.1) := ⟨_, rfl⟩
    rw [← hQ]
    have no : (gs_kind C = 3 ∨ (nm < 0 ∨ 26 ≤ nm) ∨ t < 0 ∨ 7 < t ∨ gs_hp s ≠ [] ∨ (gs_fs C).length = 4 ∨ (gs_ix (gs_fs C) nm).isSome = true) → Q (.inl (some (.int (-1)))) h := by
      intro z
      rw [hQ]
      simp only [if_pos z]
      exact ⟨trivial, X, trivial, trivial⟩
    by_cases c1 : gs_kind C = 3
    · simp only [r53_0, r53_0n, r53_1, r53_5, r53_5n, r53_7, r53_7n, r53_9n, r53_9, r53_12, r53_12n, r53_14, r53_17, r53_18, r53_21, r53_25, r53_28, r53_29, r53_32, r53_33, r53_35, r53_38, r53_39, r53_40, r53_40n, r53_41, r53_44, r53_47, r53_47n, r53_49, r53_52, r53_53, r53_56, r53_56n, r53_58, r53_62, r53_65, r53_66, r53_67, r53_67n, r53_69, r53_70, r53_74, r53_74n, r53_76, r53_79, i32_10, reduceIte, gm_cmp1, gm_cmp3, gm_cmp4, gm_kd_sf, gm_ln_sf, gm_sf_1, gm_sf_2, gm_nw_1, gm_nw_2, gm_k_int, gm_k_ref, gm_k_null, gm_k_u, gm_k_long, and_true, true_and, true_or, or_true, or_false, false_or, and_self, or_self, if_true, if_false, List.map_nil, List.map_cons, List.sum_nil, List.sum_cons, Nat.zero_le, Option.toList_some, Option.toList_none, List.cons_append, List.nil_append, ne_eq, not_false_eq_true, not_true_eq_false, nI_1, nI_add, Value.category, Nat.reduceAdd, Nat.reduceMod, Nat.reduceLeDiff, Nat.reduceLT, Nat.reduceEqDiff, Nat.reducePow, Nat.le_refl, Nat.add_left_cancel_iff, Nat.add_eq_left, Nat.left_eq_add, Nat.add_zero, gx_ow, k3, p3, c1]
      exact no (Or.inl c1)
    simp only [r53_0, r53_0n, r53_1, r53_5, r53_5n, r53_7, r53_7n, r53_9n, r53_9, r53_12, r53_12n, r53_14, r53_17, r53_18, r53_21, r53_25, r53_28, r53_29, r53_32, r53_33, r53_35, r53_38, r53_39, r53_40, r53_40n, r53_41, r53_44, r53_47, r53_47n, r53_49, r53_52, r53_53, r53_56, r53_56n, r53_58, r53_62, r53_65, r53_66, r53_67, r53_67n, r53_69, r53_70, r53_74, r53_74n, r53_76, r53_79, i32_10, reduceIte, gm_cmp1, gm_cmp3, gm_cmp4, gm_kd_sf, gm_ln_sf, gm_sf_1, gm_sf_2, gm_nw_1, gm_nw_2, gm_k_int, gm_k_ref, gm_k_null, gm_k_u, gm_k_long, and_true, true_and, true_or, or_true, or_false, false_or, and_self, or_self, if_true, if_false, List.map_nil, List.map_cons, List.sum_nil, List.sum_cons, Nat.zero_le, Option.toList_some, Option.toList_none, List.cons_append, List.nil_append, ne_eq, not_false_eq_true, not_true_eq_false, nI_1, nI_add, Value.category, Nat.reduceAdd, Nat.reduceMod, Nat.reduceLeDiff, Nat.reduceLT, Nat.reduceEqDiff, Nat.reducePow, Nat.le_refl, Nat.add_left_cancel_iff, Nat.add_eq_left, Nat.left_eq_add, Nat.add_zero, gx_ow, k3, p3, c1]
    refine c53_22 (by simp) hd (x_isName nm) (gx_kn ?_) gx_kx
    by_cases c2 : nm < 0
    · simp only [r53_0, r53_0n, r53_1, r53_5, r53_5n, r53_7, r53_7n, r53_9n, r53_9, r53_12, r53_12n, r53_14, r53_17, r53_18, r53_21, r53_25, r53_28, r53_29, r53_32, r53_33, r53_35, r53_38, r53_39, r53_40, r53_40n, r53_41, r53_44, r53_47, r53_47n, r53_49, r53_52, r53_53, r53_56, r53_56n, r53_58, r53_62, r53_65, r53_66, r53_67, r53_67n, r53_69, r53_70, r53_74, r53_74n, r53_76, r53_79, i32_10, reduceIte, gm_cmp1, gm_cmp3, gm_cmp4, gm_kd_sf, gm_ln_sf, gm_sf_1, gm_sf_2, gm_nw_1, gm_nw_2, gm_k_int, gm_k_ref, gm_k_null, gm_k_u, gm_k_long, and_true, true_and, true_or, or_true, or_false, false_or, and_self, or_self, if_true, if_false, List.map_nil, List.map_cons, List.sum_nil, List.sum_cons, Nat.zero_le, Option.toList_some, Option.toList_none, List.cons_append, List.nil_append, ne_eq, not_false_eq_true, not_true_eq_false, nI_1, nI_add, Value.category, Nat.reduceAdd, Nat.reduceMod, Nat.reduceLeDiff, Nat.reduceLT, Nat.reduceEqDiff, Nat.reducePow, Nat.le_refl, Nat.add_left_cancel_iff, Nat.add_eq_left, Nat.left_eq_add, Nat.add_zero, c2]
      exact no (Or.inr (Or.inl (Or.inl c2)))
    by_cases c3 : 26 ≤ nm
    · simp only [r53_0, r53_0n, r53_1, r53_5, r53_5n, r53_7, r53_7n, r53_9n, r53_9, r53_12, r53_12n, r53_14, r53_17, r53_18, r53_21, r53_25, r53_28, r53_29, r53_32, r53_33, r53_35, r53_38, r53_39, r53_40, r53_40n, r53_41, r53_44, r53_47, r53_47n, r53_49, r53_52, r53_53, r53_56, r53_56n, r53_58, r53_62, r53_65, r53_66, r53_67, r53_67n, r53_69, r53_70, r53_74, r53_74n, r53_76, r53_79, i32_10, reduceIte, gm_cmp1, gm_cmp3, gm_cmp4, gm_kd_sf, gm_ln_sf, gm_sf_1, gm_sf_2, gm_nw_1, gm_nw_2, gm_k_int, gm_k_ref, gm_k_null, gm_k_u, gm_k_long, and_true, true_and, true_or, or_true, or_false, false_or, and_self, or_self, if_true, if_false, List.map_nil, List.map_cons, List.sum_nil, List.sum_cons, Nat.zero_le, Option.toList_some, Option.toList_none, List.cons_append, List.nil_append, ne_eq, not_false_eq_true, not_true_eq_false, nI_1, nI_add, Value.category, Nat.reduceAdd, Nat.reduceMod, Nat.reduceLeDiff, Nat.reduceLT, Nat.reduceEqDiff, Nat.reducePow, Nat.le_refl, Nat.add_left_cancel_iff, Nat.add_eq_left, Nat.left_eq_add, Nat.add_zero, c2, c3]
      exact no (Or.inr (Or.inl (Or.inr c3)))
    by_cases c4 : t < 0
    · simp only [r53_0, r53_0n, r53_1, r53_5, r53_5n, r53_7, r53_7n, r53_9n, r53_9, r53_12, r53_12n, r53_14, r53_17, r53_18, r53_21, r53_25, r53_28, r53_29, r53_32, r53_33, r53_35, r53_38, r53_39, r53_40, r53_40n, r53_41, r53_44, r53_47, r53_47n, r53_49, r53_52, r53_53, r53_56, r53_56n, r53_58, r53_62, r53_65, r53_66, r53_67, r53_67n, r53_69, r53_70, r53_74, r53_74n, r53_76, r53_79, i32_10, reduceIte, gm_cmp1, gm_cmp3, gm_cmp4, gm_kd_sf, gm_ln_sf, gm_sf_1, gm_sf_2, gm_nw_1, gm_nw_2, gm_k_int, gm_k_ref, gm_k_null, gm_k_u, gm_k_long, and_true, true_and, true_or, or_true, or_false, false_or, and_self, or_self, if_true, if_false, List.map_nil, List.map_cons, List.sum_nil, List.sum_cons, Nat.zero_le, Option.toList_some, Option.toList_none, List.cons_append, List.nil_append, ne_eq, not_false_eq_true, not_true_eq_false, nI_1, nI_add, Value.category, Nat.reduceAdd, Nat.reduceMod, Nat.reduceLeDiff, Nat.reduceLT, Nat.reduceEqDiff, Nat.reducePow, Nat.le_refl, Nat.add_left_cancel_iff, Nat.add_eq_left, Nat.left_eq_add, Nat.add_zero, c2, c3, c4]
      exact no (Or.inr (Or.inr (Or.inl c4)))
    by_cases c5 : 7 < t
    · have c5' : ¬ t ≤ 7 := Int32.not_le.mpr c5
      simp only [r53_0, r53_0n, r53_1, r53_5, r53_5n, r53_7, r53_7n, r53_9n, r53_9, r53_12, r53_12n, r53_14, r53_17, r53_18, r53_21, r53_25, r53_28, r53_29, r53_32, r53_33, r53_35, r53_38, r53_39, r53_40, r53_40n, r53_41, r53_44, r53_47, r53_47n, r53_49, r53_52, r53_53, r53_56, r53_56n, r53_58, r53_62, r53_65, r53_66, r53_67, r53_67n, r53_69, r53_70, r53_74, r53_74n, r53_76, r53_79, i32_10, reduceIte, gm_cmp1, gm_cmp3, gm_cmp4, gm_kd_sf, gm_ln_sf, gm_sf_1, gm_sf_2, gm_nw_1, gm_nw_2, gm_k_int, gm_k_ref, gm_k_null, gm_k_u, gm_k_long, and_true, true_and, true_or, or_true, or_false, false_or, and_self, or_self, if_true, if_false, List.map_nil, List.map_cons, List.sum_nil, List.sum_cons, Nat.zero_le, Option.toList_some, Option.toList_none, List.cons_append, List.nil_append, ne_eq, not_false_eq_true, not_true_eq_false, nI_1, nI_add, Value.category, Nat.reduceAdd, Nat.reduceMod, Nat.reduceLeDiff, Nat.reduceLT, Nat.reduceEqDiff, Nat.reducePow, Nat.le_refl, Nat.add_left_cancel_iff, Nat.add_eq_left, Nat.left_eq_add, Nat.add_zero, c2, c3, c4, c5']
      exact no (Or.inr (Or.inr (Or.inr (Or.inl c5))))
    have c5' : t ≤ 7 := Int32.not_lt.mp c5
    by_cases c6 : gs_hp s ≠ []
    · have l6 : ¬ nI (gs_hp s).length = 0 := nI_ne0 (List.length_pos_iff.mpr c6) (by omega)
      simp only [r53_0, r53_0n, r53_1, r53_5, r53_5n, r53_7, r53_7n, r53_9n, r53_9, r53_12, r53_12n, r53_14, r53_17, r53_18, r53_21, r53_25, r53_28, r53_29, r53_32, r53_33, r53_35, r53_38, r53_39, r53_40, r53_40n, r53_41, r53_44, r53_47, r53_47n, r53_49, r53_52, r53_53, r53_56, r53_56n, r53_58, r53_62, r53_65, r53_66, r53_67, r53_67n, r53_69, r53_70, r53_74, r53_74n, r53_76, r53_79, i32_10, reduceIte, gm_cmp1, gm_cmp3, gm_cmp4, gm_kd_sf, gm_ln_sf, gm_sf_1, gm_sf_2, gm_nw_1, gm_nw_2, gm_k_int, gm_k_ref, gm_k_null, gm_k_u, gm_k_long, and_true, true_and, true_or, or_true, or_false, false_or, and_self, or_self, if_true, if_false, List.map_nil, List.map_cons, List.sum_nil, List.sum_cons, Nat.zero_le, Option.toList_some, Option.toList_none, List.cons_append, List.nil_append, ne_eq, not_false_eq_true, not_true_eq_false, nI_1, nI_add, Value.category, Nat.reduceAdd, Nat.reduceMod, Nat.reduceLeDiff, Nat.reduceLT, Nat.reduceEqDiff, Nat.reducePow, Nat.le_refl, Nat.add_left_cancel_iff, Nat.add_eq_left, Nat.left_eq_add, Nat.add_zero, c2, c3, c4, c5', R.1.1, z3, l6]
      exact no (Or.inr (Or.inr (Or.inr (Or.inr (Or.inl c6)))))
    have c6' : gs_hp s = [] := Decidable.of_not_not c6
    have l6 : nI (gs_hp s).length = 0 := by rw [c6']; rfl
    have e4 : (nI (gs_fs C).length = 4) = ((gs_fs C).length = 4) := propext (nI_eq (b := 4) (by omega) (by decide))
    by_cases c7 : (gs_fs C).length = 4
    · simp only [r53_0, r53_0n, r53_1, r53_5, r53_5n, r53_7, r53_7n, r53_9n, r53_9, r53_12, r53_12n, r53_14, r53_17, r53_18, r53_21, r53_25, r53_28, r53_29, r53_32, r53_33, r53_35, r53_38, r53_39, r53_40, r53_40n, r53_41, r53_44, r53_47, r53_47n, r53_49, r53_52, r53_53, r53_56, r53_56n, r53_58, r53_62, r53_65, r53_66, r53_67, r53_67n, r53_69, r53_70, r53_74, r53_74n, r53_76, r53_79, i32_10, reduceIte, gm_cmp1, gm_cmp3, gm_cmp4, gm_kd_sf, gm_ln_sf, gm_sf_1, gm_sf_2, gm_nw_1, gm_nw_2, gm_k_int, gm_k_ref, gm_k_null, gm_k_u, gm_k_long, and_true, true_and, true_or, or_true, or_false, false_or, and_self, or_self, if_true, if_false, List.map_nil, List.map_cons, List.sum_nil, List.sum_cons, Nat.zero_le, Option.toList_some, Option.toList_none, List.cons_append, List.nil_append, ne_eq, not_false_eq_true, not_true_eq_false, nI_1, nI_add, Value.category, Nat.reduceAdd, Nat.reduceMod, Nat.reduceLeDiff, Nat.reduceLT, Nat.reduceEqDiff, Nat.reducePow, Nat.le_refl, Nat.add_left_cancel_iff, Nat.add_eq_left, Nat.left_eq_add, Nat.add_zero, c2, c3, c4, c5', R.1.1, z3, l6, k3, p8, e4, c7]
      exact no (Or.inr (Or.inr (Or.inr (Or.inr (Or.inr (Or.inl c7))))))
    simp only [r53_0, r53_0n, r53_1, r53_5, r53_5n, r53_7, r53_7n, r53_9n, r53_9, r53_12, r53_12n, r53_14, r53_17, r53_18, r53_21, r53_25, r53_28, r53_29, r53_32, r53_33, r53_35, r53_38, r53_39, r53_40, r53_40n, r53_41, r53_44, r53_47, r53_47n, r53_49, r53_52, r53_53, r53_56, r53_56n, r53_58, r53_62, r53_65, r53_66, r53_67, r53_67n, r53_69, r53_70, r53_74, r53_74n, r53_76, r53_79, i32_10, reduceIte, gm_cmp1, gm_cmp3, gm_cmp4, gm_kd_sf, gm_ln_sf, gm_sf_1, gm_sf_2, gm_nw_1, gm_nw_2, gm_k_int, gm_k_ref, gm_k_null, gm_k_u, gm_k_long, and_true, true_and, true_or, or_true, or_false, false_or, and_self, or_self, if_true, if_false, List.map_nil, List.map_cons, List.sum_nil, List.sum_cons, Nat.zero_le, Option.toList_some, Option.toList_none, List.cons_append, List.nil_append, ne_eq, not_false_eq_true, not_true_eq_false, nI_1, nI_add, Value.category, Nat.reduceAdd, Nat.reduceMod, Nat.reduceLeDiff, Nat.reduceLT, Nat.reduceEqDiff, Nat.reducePow, Nat.le_refl, Nat.add_left_cancel_iff, Nat.add_eq_left, Nat.left_eq_add, Nat.add_zero, c2, c3, c4, c5', R.1.1, z3, l6, k3, p8, e4, c7]
    refine c53_59 (by simp) k3 hd (x_indexOf q) (gx_kn ?_) gx_kx
    cases hix : gs_ix (gs_fs C) nm with
    | some j =>
      have ei : gs_ixi (gs_fs C) nm = nI j := by unfold gs_ixi; rw [hix]
      have := gs_ix_lt hix
      simp only [r53_0, r53_0n, r53_1, r53_5, r53_5n, r53_7, r53_7n, r53_9n, r53_9, r53_12, r53_12n, r53_14, r53_17, r53_18, r53_21, r53_25, r53_28, r53_29, r53_32, r53_33, r53_35, r53_38, r53_39, r53_40, r53_40n, r53_41, r53_44, r53_47, r53_47n, r53_49, r53_52, r53_53, r53_56, r53_56n, r53_58, r53_62, r53_65, r53_66, r53_67, r53_67n, r53_69, r53_70, r53_74, r53_74n, r53_76, r53_79, i32_10, reduceIte, gm_cmp1, gm_cmp3, gm_cmp4, gm_kd_sf, gm_ln_sf, gm_sf_1, gm_sf_2, gm_nw_1, gm_nw_2, gm_k_int, gm_k_ref, gm_k_null, gm_k_u, gm_k_long, and_true, true_and, true_or, or_true, or_false, false_or, and_self, or_self, if_true, if_false, List.map_nil, List.map_cons, List.sum_nil, List.sum_cons, Nat.zero_le, Option.toList_some, Option.toList_none, List.cons_append, List.nil_append, ne_eq, not_false_eq_true, not_true_eq_false, nI_1, nI_add, Value.category, Nat.reduceAdd, Nat.reduceMod, Nat.reduceLeDiff, Nat.reduceLT, Nat.reduceEqDiff, Nat.reducePow, Nat.le_refl, Nat.add_left_cancel_iff, Nat.add_eq_left, Nat.left_eq_add, Nat.add_zero, ei, nI_pos (show j < 2 ^ 31 by omega)]
      exact no (Or.inr (Or.inr (Or.inr (Or.inr (Or.inr (Or.inr (by rw [hix]; rfl)))))))
    | none =>
      have ei : gs_ixi (gs_fs C) nm = -1 := by unfold gs_ixi; rw [hix]
      have m1 : (-1 : Int32) < 0 := by decide
      simp only [r53_0, r53_0n, r53_1, r53_5, r53_5n, r53_7, r53_7n, r53_9n, r53_9, r53_12, r53_12n, r53_14, r53_17, r53_18, r53_21, r53_25, r53_28, r53_29, r53_32, r53_33, r53_35, r53_38, r53_39, r53_40, r53_40n, r53_41, r53_44, r53_47, r53_47n, r53_49, r53_52, r53_53, r53_56, r53_56n, r53_58, r53_62, r53_65, r53_66, r53_67, r53_67n, r53_69, r53_70, r53_74, r53_74n, r53_76, r53_79, i32_10, reduceIte, gm_cmp1, gm_cmp3, gm_cmp4, gm_kd_sf, gm_ln_sf, gm_sf_1, gm_sf_2, gm_nw_1, gm_nw_2, gm_k_int, gm_k_ref, gm_k_null, gm_k_u, gm_k_long, and_true, true_and, true_or, or_true, or_false, false_or, and_self, or_self, if_true, if_false, List.map_nil, List.map_cons, List.sum_nil, List.sum_cons, Nat.zero_le, Option.toList_some, Option.toList_none, List.cons_append, List.nil_append, ne_eq, not_false_eq_true, not_true_eq_false, nI_1, nI_add, Value.category, Nat.reduceAdd, Nat.reduceMod, Nat.reduceLeDiff, Nat.reduceLT, Nat.reduceEqDiff, Nat.reducePow, Nat.le_refl, Nat.add_left_cancel_iff, Nat.add_eq_left, Nat.left_eq_add, Nat.add_zero, ei, m1]
      obtain ⟨h2, h2e⟩ : ∃ h2, h2 = gm_sf (gm_sf (gm_sf h (ca c + 1) (gs_fs C).length (.int nm)) (ca c + 2) (gs_fs C).length (.int t)) (ca c) 6 (.int (nI ((gs_fs C).length + 1))) := ⟨_, rfl⟩
      have ad : gm_Ca E (d - 1) 116 [.ref (ca c), .int nm, .int t] h (gx_v none h2) := by
        show gm_W E (d - 1) 116 0 [.ref (ca c), .int nm, .int t] [] h _
        have l4 : ¬ (4 : Int32) ≤ nI (gs_fs C).length := nI_ge (b := 4) (by omega) (by decide)
        have l4' : (gs_fs C).length < 4 := by omega
        have n1 : ca c ≠ ca c + 1 := by omega
        have n2 : ca c ≠ ca c + 2 := by omega
        simp only [r116_0, r116_0n, r116_1, r116_4, r116_5, r116_8, r116_8n, r116_9, r116_12, r116_12n, r116_13, r116_16, r116_17, r116_18, r116_18n, r116_19, r116_22, r116_22n, r116_23, r116_26, r116_27, r116_28, r116_28n, r116_29, r116_29i, r116_30, r116_33, r116_34, r116_35, r116_38, i32_10, reduceIte, gm_cmp1, gm_cmp3, gm_cmp4, gm_kd_sf, gm_ln_sf, gm_sf_1, gm_sf_2, gm_nw_1, gm_nw_2, gm_k_int, gm_k_ref, gm_k_null, gm_k_u, gm_k_long, and_true, true_and, true_or, or_true, or_false, false_or, and_self, or_self, if_true, if_false, List.map_nil, List.map_cons, List.sum_nil, List.sum_cons, Nat.zero_le, Option.toList_some, Option.toList_none, List.cons_append, List.nil_append, ne_eq, not_false_eq_true, not_true_eq_false, nI_1, nI_add, Value.category, Nat.reduceAdd, Nat.reduceMod, Nat.reduceLeDiff, Nat.reduceLT, Nat.reduceEqDiff, Nat.reducePow, Nat.le_refl, Nat.add_left_cancel_iff, Nat.add_eq_left, Nat.left_eq_add, Nat.add_zero, k3, p8, l4, p6, p7, p12, p13, p14, p15, l4', gm_fv_sfa n1, gm_fv_sfa n2]
        exact ⟨rfl, h2e.symm⟩
      refine c53_71 (by simp) k3 hd ad (gx_kn ?_) gx_kx
      have n10 : ca c + 1 ≠ ca c := by omega
      have n20 : ca c + 2 ≠ ca c := by omega
      have n12 : ca c + 1 ≠ ca c + 2 := by omega
      have n21 : ca c + 2 ≠ ca c + 1 := by omega
      have n01 : ca c ≠ ca c + 1 := by omega
      have n02 : ca c ≠ ca c + 2 := by omega
      have c21 : h2.1 = h.1 ∧ h2.2.1 = h.2.1 := by rw [h2e]; simp only [gm_sf_1, gm_sf_2, and_self]
      have k23 : gm_kd h2 (ca c) = 3 := by rw [h2e]; simp only [gm_kd_sf]; exact k3
      have f0 : ∀ j, j ≠ 6 → gm_fv h2 (ca c) j = gm_fv h (ca c) j := fun j hj => by rw [h2e, gm_fv_sfj hj, gm_fv_sfa n02, gm_fv_sfa n01]
      have f6 : gm_fv h2 (ca c) 6 = .int (nI ((gs_fs C).length + 1)) := by rw [h2e, gm_fv_sf (by simp only [gm_ln_sf, lc]; decide)]
      have X2 : gx_X E h2 x ca (gs_def1 K c (C.1, C.2.1, C.2.2.1, gs_fs C ++ [(nm, t)], C.2.2.2.2)) s lf := by
        have cl2 : gx_cl h2 x ca (fun _ => False) c (C.1, C.2.1, C.2.2.1, gs_fs C ++ [(nm, t)], C.2.2.2.2) (ca c) := by
          have hle : h.1 ≤ h2.1 := by omega
          refine ⟨⟨p0.1.tr hle, p0.2.1.tr hle, p0.2.2.tr hle⟩, k23, ?_, ?_, ?_, ?_, ?_, ?_, ?_, ?_, ?_, ?_, ?_, ?_, ?_, ?_, fun j q hj => ?_⟩
          · rw [f0 0 (by decide)]; exact p2
          · rw [f0 1 (by decide)]; exact p3
          · rw [f0 2 (by decide)]; exact p4
          · rw [f0 3 (by decide)]; exact p5
          · rw [f0 4 (by decide)]; exact p6
          · rw [f0 5 (by decide)]; exact p7
          · rw [f6]; simp [gs_fs]
          · rw [f0 7 (by decide)]; exact p9
          · rw [f0 8 (by decide)]; exact p10
          · show (gs_fs C ++ [(nm, t)]).length ≤ 4
            simp
            omega
          · rw [h2e]; simp only [gm_kd_sf]; exact p12
          · rw [h2e]; simp only [gm_ln_sf]; exact p13
          · rw [h2e]; simp only [gm_kd_sf]; exact p14
          · rw [h2e]; simp only [gm_ln_sf]; exact p15
          · have hj : (gs_fs C ++ [(nm, t)])[j]? = some q := hj
            rw [h2e, gm_fv_sfa n10, gm_fv_sfa n12, gm_fv_sfa n20]
            by_cases hjl : j < (gs_fs C).length
            · rw [List.getElem?_append_left hjl] at hj
              rw [gm_fv_sfj (by omega), gm_fv_sfj (by omega), gm_fv_sfj (by omega)]
              exact p16 j q hj
            · have hj2 := (List.getElem?_eq_some_iff.mp hj).1
              simp at hj2
              have hj3 : j = (gs_fs C).length := by omega
              subst hj3
              simp at hj
              subst hj
              exact ⟨gm_fv_sf (by omega), gm_fv_sf (by rw [gm_ln_sf]; omega)⟩
        have o1 := p0.1.1
        have o2 := p0.2.1.1
        have o3 := p0.2.2.1
        refine ⟨R.cls hC c21.1 (fun a a1 a2 a3 => by rw [h2e, gm_rd_sfn a1, gm_rd_sfn a3, gm_rd_sfn a2]) cl2 rfl, ?_⟩
        rw [h2e, gm_fv_sfa (by omega), gm_fv_sfa (by omega), gm_fv_sfa (by omega)]
        exact X.2
      simp only [r53_0, r53_0n, r53_1, r53_5, r53_5n, r53_7, r53_7n, r53_9n, r53_9, r53_12, r53_12n, r53_14, r53_17, r53_18, r53_21, r53_25, r53_28, r53_29, r53_32, r53_33, r53_35, r53_38, r53_39, r53_40, r53_40n, r53_41, r53_44, r53_47, r53_47n, r53_49, r53_52, r53_53, r53_56, r53_56n, r53_58, r53_62, r53_65, r53_66, r53_67, r53_67n, r53_69, r53_70, r53_74, r53_74n, r53_76, r53_79, i32_10, reduceIte, gm_cmp1, gm_cmp3, gm_cmp4, gm_kd_sf, gm_ln_sf, gm_sf_1, gm_sf_2, gm_nw_1, gm_nw_2, gm_k_int, gm_k_ref, gm_k_null, gm_k_u, gm_k_long, and_true, true_and, true_or, or_true, or_false, false_or, and_self, or_self, if_true, if_false, List.map_nil, List.map_cons, List.sum_nil, List.sum_cons, Nat.zero_le, Option.toList_some, Option.toList_none, List.cons_append, List.nil_append, ne_eq, not_false_eq_true, not_true_eq_false, nI_1, nI_add, Value.category, Nat.reduceAdd, Nat.reduceMod, Nat.reduceLeDiff, Nat.reduceLT, Nat.reduceEqDiff, Nat.reducePow, Nat.le_refl, Nat.add_left_cancel_iff, Nat.add_eq_left, Nat.left_eq_add, Nat.add_zero, k23, f6]
      rw [hQ]
      have : ¬ (gs_kind C = 3 ∨ (nm < 0 ∨ 26 ≤ nm) ∨ t < 0 ∨ 7 < t ∨ gs_hp s ≠ [] ∨ (gs_fs C).length = 4 ∨ (gs_ix (gs_fs C) nm).isSome = true) := by
        rintro (z | (z | z) | z | z | z | z | z)
        · exact c1 z
        · exact c2 z
        · exact c3 z
        · exact c4 z
        · exact c5 z
        · exact c6 z
        · exact c7 z
        · rw [hix] at z; cases z
      simp only [if_neg this]
      exact ⟨trivial, X2, c21⟩
end Z9
