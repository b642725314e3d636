/-! THE CLASS, 5: questions about objects and local classes. -/
section X5
variable {E : Nat → Value} {d x : Nat} {h : gm_H} {ca : Nat → Nat} {K : gs_K} {F G : Nat → Prop} {s : gs_S}
/-- an object's number is within the heap -/
theorem gx_R.look {v : Int32} (R : gx_R E h x ca K F s) (h1 : ¬ v < 0) (h2 : ¬ nI (gs_hp s).length ≤ v) : ∃ (i : Nat) (o : gs_O) (t : Nat), v = nI i ∧ i < 234 ∧ v.toNatClampNeg = i ∧ (gs_hp s)[i]? = some o ∧ gm_fv h (x + 3) i = .ref t ∧ gx_th h ca o t ∧ gs_sort s v = o.1 := by
  obtain ⟨i, hi, rfl⟩ := nI_of h1
  have h4 := R.2.2.2.1.2.2.2.1
  rw [nI_leI (by omega) hi] at h2
  have hl : i < (gs_hp s).length := by omega
  obtain ⟨ta, T⟩ := R.2.2.2.2.1
  obtain ⟨b1, -, b3⟩ := T.2 i _ (List.getElem?_eq_getElem hl)
  refine ⟨i, _, ta i, rfl, by omega, nI_clamp hi, List.getElem?_eq_getElem hl, b1, b3, ?_⟩
  unfold gs_sort
  rw [if_neg h1]
  simp only [nI_clamp hi, hl, dite_true]
theorem gs_sort_out {v : Int32} (hn : (gs_hp s).length ≤ 234) (h1 : v < 0 ∨ nI (gs_hp s).length ≤ v) : gs_sort s v = -1 := by
  unfold gs_sort
  by_cases h2 : v < 0
  · rw [if_pos h2]
  · rw [if_neg h2]
    obtain ⟨i, hi, rfl⟩ := nI_of h2
    rcases h1 with z | z
    · exact absurd z h2
    · rw [nI_leI (by omega) hi] at z
      rw [nI_clamp hi, dif_neg (by omega)]
theorem x_isText {v : Int32} (hd : 1 ≤ d) (R : gx_R E h x ca K F s) : gm_Ca E d 100 [.ref x, .int v] h (gx_v (some (.int (if gs_sort s v = 1 then 1 else 0))) h) := by
  show gm_W E d 100 0 [.ref x, .int v] [] h _
  obtain ⟨A0, -, -, A8, -, -, -, -, -, A3, A3l, -⟩ := R.1
  have h4 := R.2.2.2.1.2.2.2.1
  simp only [r100_0, r100_0n, r100_1, r100_5, r100_8, r100_8n, r100_9, r100_12, r100_13, r100_14, r100_17, r100_18, r100_21, r100_22, r100_25, r100_26, i32_10, reduceIte, gm_cmp1, gm_cmp3, gm_cmp4, gm_kd_sf, gm_ln_sf, gm_sf_1, gm_sf_2, gm_nw_1, gm_nw_2, gm_k_int, gm_k_ref, gm_k_null, gm_k_u, gm_k_long, and_true, true_and, true_or, or_true, or_false, false_or, and_self, or_self, if_true, if_false, List.map_nil, List.map_cons, List.sum_nil, List.sum_cons, Nat.zero_le, Option.toList_some, Option.toList_none, List.cons_append, List.nil_append, ne_eq, not_false_eq_true, not_true_eq_false, nI_1, nI_add, Value.category, Nat.reduceAdd, Nat.reduceMod, Nat.reduceLeDiff, Nat.reduceLT, Nat.reduceEqDiff, Nat.reducePow, Nat.le_refl, Nat.add_left_cancel_iff, Nat.add_eq_left, Nat.left_eq_add, Nat.add_zero]
  refine c100_2 (by simp) A0 hd (x_isInHeap R) (gx_kn ?_) gx_kx
  by_cases h1 : v < 0
  · simp only [r100_0, r100_0n, r100_1, r100_5, r100_8, r100_8n, r100_9, r100_12, r100_13, r100_14, r100_17, r100_18, r100_21, r100_22, r100_25, r100_26, i32_10, reduceIte, gm_cmp1, gm_cmp3, gm_cmp4, gm_kd_sf, gm_ln_sf, gm_sf_1, gm_sf_2, gm_nw_1, gm_nw_2, gm_k_int, gm_k_ref, gm_k_null, gm_k_u, gm_k_long, and_true, true_and, true_or, or_true, or_false, false_or, and_self, or_self, if_true, if_false, List.map_nil, List.map_cons, List.sum_nil, List.sum_cons, Nat.zero_le, Option.toList_some, Option.toList_none, List.cons_append, List.nil_append, ne_eq, not_false_eq_true, not_true_eq_false, nI_1, nI_add, Value.category, Nat.reduceAdd, Nat.reduceMod, Nat.reduceLeDiff, Nat.reduceLT, Nat.reduceEqDiff, Nat.reducePow, Nat.le_refl, Nat.add_left_cancel_iff, Nat.add_eq_left, Nat.left_eq_add, Nat.add_zero, h1, gs_sort_out h4 (Or.inl h1)]
    exact ⟨rfl, rfl⟩
  · by_cases h2 : nI (gs_hp s).length ≤ v
    · simp only [r100_0, r100_0n, r100_1, r100_5, r100_8, r100_8n, r100_9, r100_12, r100_13, r100_14, r100_17, r100_18, r100_21, r100_22, r100_25, r100_26, i32_10, reduceIte, gm_cmp1, gm_cmp3, gm_cmp4, gm_kd_sf, gm_ln_sf, gm_sf_1, gm_sf_2, gm_nw_1, gm_nw_2, gm_k_int, gm_k_ref, gm_k_null, gm_k_u, gm_k_long, and_true, true_and, true_or, or_true, or_false, false_or, and_self, or_self, if_true, if_false, List.map_nil, List.map_cons, List.sum_nil, List.sum_cons, Nat.zero_le, Option.toList_some, Option.toList_none, List.cons_append, List.nil_append, ne_eq, not_false_eq_true, not_true_eq_false, nI_1, nI_add, Value.category, Nat.reduceAdd, Nat.reduceMod, Nat.reduceLeDiff, Nat.reduceLT, Nat.reduceEqDiff, Nat.reducePow, Nat.le_refl, Nat.add_left_cancel_iff, Nat.add_eq_left, Nat.left_eq_add, Nat.add_zero, h1, h2, gs_sort_out h4 (Or.inr h2)]
      exact ⟨rfl, rfl⟩
    · obtain ⟨i, o, t, rfl, i1, i2, i3, i4, i5, i6⟩ := R.look h1 h2
      simp only [r100_0, r100_0n, r100_1, r100_5, r100_8, r100_8n, r100_9, r100_12, r100_13, r100_14, r100_17, r100_18, r100_21, r100_22, r100_25, r100_26, i32_10, reduceIte, gm_cmp1, gm_cmp3, gm_cmp4, gm_kd_sf, gm_ln_sf, gm_sf_1, gm_sf_2, gm_nw_1, gm_nw_2, gm_k_int, gm_k_ref, gm_k_null, gm_k_u, gm_k_long, and_true, true_and, true_or, or_true, or_false, false_or, and_self, or_self, if_true, if_false, List.map_nil, List.map_cons, List.sum_nil, List.sum_cons, Nat.zero_le, Option.toList_some, Option.toList_none, List.cons_append, List.nil_append, ne_eq, not_false_eq_true, not_true_eq_false, nI_1, nI_add, Value.category, Nat.reduceAdd, Nat.reduceMod, Nat.reduceLeDiff, Nat.reduceLT, Nat.reduceEqDiff, Nat.reducePow, Nat.le_refl, Nat.add_left_cancel_iff, Nat.add_eq_left, Nat.left_eq_add, Nat.add_zero, h1, h2, A0, A8, A3, A3l, i1, i4, i5.1, i5.2.1, i6]
      by_cases h3 : o.1 = 1 <;> simp [h3, gx_v]
theorem x_isIntsOrNull {v : Int32} (hd : 1 ≤ d) (R : gx_R E h x ca K F s) : gm_Ca E d 94 [.ref x, .int v] h (gx_v (some (.int (if v = -2 then 1 else if gs_sort s v = 2 then 1 else 0))) h) := by
  show gm_W E d 94 0 [.ref x, .int v] [] h _
  obtain ⟨A0, -, -, A8, -, -, -, -, -, A3, A3l, -⟩ := R.1
  have h4 := R.2.2.2.1.2.2.2.1
  by_cases h0 : v = -2
  · simp only [r94_0, r94_1, r94_3, r94_6, r94_6n, r94_7, r94_11, r94_14, r94_14n, r94_15, r94_18, r94_19, r94_20, r94_23, r94_24, r94_27, r94_28, r94_31, r94_32, i32_10, reduceIte, gm_cmp1, gm_cmp3, gm_cmp4, gm_kd_sf, gm_ln_sf, gm_sf_1, gm_sf_2, gm_nw_1, gm_nw_2, gm_k_int, gm_k_ref, gm_k_null, gm_k_u, gm_k_long, and_true, true_and, true_or, or_true, or_false, false_or, and_self, or_self, if_true, if_false, List.map_nil, List.map_cons, List.sum_nil, List.sum_cons, Nat.zero_le, Option.toList_some, Option.toList_none, List.cons_append, List.nil_append, ne_eq, not_false_eq_true, not_true_eq_false, nI_1, nI_add, Value.category, Nat.reduceAdd, Nat.reduceMod, Nat.reduceLeDiff, Nat.reduceLT, Nat.reduceEqDiff, Nat.reducePow, Nat.le_refl, Nat.add_left_cancel_iff, Nat.add_eq_left, Nat.left_eq_add, Nat.add_zero, h0]
    exact ⟨rfl, rfl⟩
  · simp only [r94_0, r94_1, r94_3, r94_6, r94_6n, r94_7, r94_11, r94_14, r94_14n, r94_15, r94_18, r94_19, r94_20, r94_23, r94_24, r94_27, r94_28, r94_31, r94_32, i32_10, reduceIte, gm_cmp1, gm_cmp3, gm_cmp4, gm_kd_sf, gm_ln_sf, gm_sf_1, gm_sf_2, gm_nw_1, gm_nw_2, gm_k_int, gm_k_ref, gm_k_null, gm_k_u, gm_k_long, and_true, true_and, true_or, or_true, or_false, false_or, and_self, or_self, if_true, if_false, List.map_nil, List.map_cons, List.sum_nil, List.sum_cons, Nat.zero_le, Option.toList_some, Option.toList_none, List.cons_append, List.nil_append, ne_eq, not_false_eq_true, not_true_eq_false, nI_1, nI_add, Value.category, Nat.reduceAdd, Nat.reduceMod, Nat.reduceLeDiff, Nat.reduceLT, Nat.reduceEqDiff, Nat.reducePow, Nat.le_refl, Nat.add_left_cancel_iff, Nat.add_eq_left, Nat.left_eq_add, Nat.add_zero, h0]
    refine c94_8 (by simp) A0 hd (x_isInHeap R) (gx_kn ?_) gx_kx
    by_cases h1 : v < 0
    · simp only [r94_0, r94_1, r94_3, r94_6, r94_6n, r94_7, r94_11, r94_14, r94_14n, r94_15, r94_18, r94_19, r94_20, r94_23, r94_24, r94_27, r94_28, r94_31, r94_32, i32_10, reduceIte, gm_cmp1, gm_cmp3, gm_cmp4, gm_kd_sf, gm_ln_sf, gm_sf_1, gm_sf_2, gm_nw_1, gm_nw_2, gm_k_int, gm_k_ref, gm_k_null, gm_k_u, gm_k_long, and_true, true_and, true_or, or_true, or_false, false_or, and_self, or_self, if_true, if_false, List.map_nil, List.map_cons, List.sum_nil, List.sum_cons, Nat.zero_le, Option.toList_some, Option.toList_none, List.cons_append, List.nil_append, ne_eq, not_false_eq_true, not_true_eq_false, nI_1, nI_add, Value.category, Nat.reduceAdd, Nat.reduceMod, Nat.reduceLeDiff, Nat.reduceLT, Nat.reduceEqDiff, Nat.reducePow, Nat.le_refl, Nat.add_left_cancel_iff, Nat.add_eq_left, Nat.left_eq_add, Nat.add_zero, h1, gs_sort_out h4 (Or.inl h1)]
      exact ⟨rfl, rfl⟩
    · by_cases h2 : nI (gs_hp s).length ≤ v
      · simp only [r94_0, r94_1, r94_3, r94_6, r94_6n, r94_7, r94_11, r94_14, r94_14n, r94_15, r94_18, r94_19, r94_20, r94_23, r94_24, r94_27, r94_28, r94_31, r94_32, i32_10, reduceIte, gm_cmp1, gm_cmp3, gm_cmp4, gm_kd_sf, gm_ln_sf, gm_sf_1, gm_sf_2, gm_nw_1, gm_nw_2, gm_k_int, gm_k_ref, gm_k_null, gm_k_u, gm_k_long, and_true, true_and, true_or, or_true, or_false, false_or, and_self, or_self, if_true, if_false, List.map_nil, List.map_cons, List.sum_nil, List.sum_cons, Nat.zero_le, Option.toList_some, Option.toList_none, List.cons_append, List.nil_append, ne_eq, not_false_eq_true, not_true_eq_false, nI_1, nI_add, Value.category, Nat.reduceAdd, Nat.reduceMod, Nat.reduceLeDiff, Nat.reduceLT, Nat.reduceEqDiff, Nat.reducePow, Nat.le_refl, Nat.add_left_cancel_iff, Nat.add_eq_left, Nat.left_eq_add, Nat.add_zero, h1, h2, gs_sort_out h4 (Or.inr h2)]
        exact ⟨rfl, rfl⟩
      · obtain ⟨i, o, t, rfl, i1, i2, i3, i4, i5, i6⟩ := R.look h1 h2
        simp only [r94_0, r94_1, r94_3, r94_6, r94_6n, r94_7, r94_11, r94_14, r94_14n, r94_15, r94_18, r94_19, r94_20, r94_23, r94_24, r94_27, r94_28, r94_31, r94_32, i32_10, reduceIte, gm_cmp1, gm_cmp3, gm_cmp4, gm_kd_sf, gm_ln_sf, gm_sf_1, gm_sf_2, gm_nw_1, gm_nw_2, gm_k_int, gm_k_ref, gm_k_null, gm_k_u, gm_k_long, and_true, true_and, true_or, or_true, or_false, false_or, and_self, or_self, if_true, if_false, List.map_nil, List.map_cons, List.sum_nil, List.sum_cons, Nat.zero_le, Option.toList_some, Option.toList_none, List.cons_append, List.nil_append, ne_eq, not_false_eq_true, not_true_eq_false, nI_1, nI_add, Value.category, Nat.reduceAdd, Nat.reduceMod, Nat.reduceLeDiff, Nat.reduceLT, Nat.reduceEqDiff, Nat.reducePow, Nat.le_refl, Nat.add_left_cancel_iff, Nat.add_eq_left, Nat.left_eq_add, Nat.add_zero, h1, h2, A0, A8, A3, A3l, i1, i4, i5.1, i5.2.1, i6]
        by_cases h3 : o.1 = 2 <;> simp [h3, gx_v]
theorem x_constantName {v : Int32} (hd : 1 ≤ d) (R : gx_R E h x ca K F s) : gm_Ca E d 88 [.ref x, .int v] h (gx_v (some (.int (gs_cname s v))) h) := by
  show gm_W E d 88 0 [.ref x, .int v, gm_u] [] h _
  obtain ⟨A0, -, -, A8, -, -, -, -, -, A3, A3l, -⟩ := R.1
  have h4 := R.2.2.2.1.2.2.2.1
  simp only [r88_0, r88_0n, r88_1, r88_5, r88_8, r88_9, r88_10, r88_10n, r88_11, r88_14, r88_15, r88_16, r88_16n, r88_17, r88_17n, r88_18, r88_21, r88_22, r88_25, r88_25n, r88_26, r88_29, r88_30, r88_31, r88_34, r88_34n, r88_35, r88_38, r88_39, r88_39k, r88_40, r88_41, r88_43, r88_44, r88_47, r88_48, i32_10, reduceIte, gm_cmp1, gm_cmp3, gm_cmp4, gm_kd_sf, gm_ln_sf, gm_sf_1, gm_sf_2, gm_nw_1, gm_nw_2, gm_k_int, gm_k_ref, gm_k_null, gm_k_u, gm_k_long, and_true, true_and, true_or, or_true, or_false, false_or, and_self, or_self, if_true, if_false, List.map_nil, List.map_cons, List.sum_nil, List.sum_cons, Nat.zero_le, Option.toList_some, Option.toList_none, List.cons_append, List.nil_append, ne_eq, not_false_eq_true, not_true_eq_false, nI_1, nI_add, Value.category, Nat.reduceAdd, Nat.reduceMod, Nat.reduceLeDiff, Nat.reduceLT, Nat.reduceEqDiff, Nat.reducePow, Nat.le_refl, Nat.add_left_cancel_iff, Nat.add_eq_left, Nat.left_eq_add, Nat.add_zero]
  refine c88_2 (by simp) A0 hd (x_isInHeap R) (gx_kn ?_) gx_kx
  unfold gs_cname
  by_cases h1 : v < 0
  · simp only [r88_0, r88_0n, r88_1, r88_5, r88_8, r88_9, r88_10, r88_10n, r88_11, r88_14, r88_15, r88_16, r88_16n, r88_17, r88_17n, r88_18, r88_21, r88_22, r88_25, r88_25n, r88_26, r88_29, r88_30, r88_31, r88_34, r88_34n, r88_35, r88_38, r88_39, r88_39k, r88_40, r88_41, r88_43, r88_44, r88_47, r88_48, i32_10, reduceIte, gm_cmp1, gm_cmp3, gm_cmp4, gm_kd_sf, gm_ln_sf, gm_sf_1, gm_sf_2, gm_nw_1, gm_nw_2, gm_k_int, gm_k_ref, gm_k_null, gm_k_u, gm_k_long, and_true, true_and, true_or, or_true, or_false, false_or, and_self, or_self, if_true, if_false, List.map_nil, List.map_cons, List.sum_nil, List.sum_cons, Nat.zero_le, Option.toList_some, Option.toList_none, List.cons_append, List.nil_append, ne_eq, not_false_eq_true, not_true_eq_false, nI_1, nI_add, Value.category, Nat.reduceAdd, Nat.reduceMod, Nat.reduceLeDiff, Nat.reduceLT, Nat.reduceEqDiff, Nat.reducePow, Nat.le_refl, Nat.add_left_cancel_iff, Nat.add_eq_left, Nat.left_eq_add, Nat.add_zero, h1]
    exact ⟨rfl, rfl⟩
  · by_cases h2 : nI (gs_hp s).length ≤ v
    · simp only [r88_0, r88_0n, r88_1, r88_5, r88_8, r88_9, r88_10, r88_10n, r88_11, r88_14, r88_15, r88_16, r88_16n, r88_17, r88_17n, r88_18, r88_21, r88_22, r88_25, r88_25n, r88_26, r88_29, r88_30, r88_31, r88_34, r88_34n, r88_35, r88_38, r88_39, r88_39k, r88_40, r88_41, r88_43, r88_44, r88_47, r88_48, i32_10, reduceIte, gm_cmp1, gm_cmp3, gm_cmp4, gm_kd_sf, gm_ln_sf, gm_sf_1, gm_sf_2, gm_nw_1, gm_nw_2, gm_k_int, gm_k_ref, gm_k_null, gm_k_u, gm_k_long, and_true, true_and, true_or, or_true, or_false, false_or, and_self, or_self, if_true, if_false, List.map_nil, List.map_cons, List.sum_nil, List.sum_cons, Nat.zero_le, Option.toList_some, Option.toList_none, List.cons_append, List.nil_append, ne_eq, not_false_eq_true, not_true_eq_false, nI_1, nI_add, Value.category, Nat.reduceAdd, Nat.reduceMod, Nat.reduceLeDiff, Nat.reduceLT, Nat.reduceEqDiff, Nat.reducePow, Nat.le_refl, Nat.add_left_cancel_iff, Nat.add_eq_left, Nat.left_eq_add, Nat.add_zero, h1, h2]
      obtain ⟨i, hi, rfl⟩ := nI_of h1
      rw [nI_leI (by omega) hi] at h2
      rw [nI_clamp hi, List.getElem?_eq_none h2]
      exact ⟨rfl, rfl⟩
    · obtain ⟨i, o, t, rfl, i1, i2, i3, i4, ⟨t1, t2, t3, t4, t5, t6, t7, t8, t9, t10⟩, i6⟩ := R.look h1 h2
      rw [i2, i3]
      have e1 : (nI o.2.2.1.length = 1) = (o.2.2.1.length = 1) := propext (nI_eq (b := 1) (by omega) (by decide))
      simp only [r88_0, r88_0n, r88_1, r88_5, r88_8, r88_9, r88_10, r88_10n, r88_11, r88_14, r88_15, r88_16, r88_16n, r88_17, r88_17n, r88_18, r88_21, r88_22, r88_25, r88_25n, r88_26, r88_29, r88_30, r88_31, r88_34, r88_34n, r88_35, r88_38, r88_39, r88_39k, r88_40, r88_41, r88_43, r88_44, r88_47, r88_48, i32_10, reduceIte, gm_cmp1, gm_cmp3, gm_cmp4, gm_kd_sf, gm_ln_sf, gm_sf_1, gm_sf_2, gm_nw_1, gm_nw_2, gm_k_int, gm_k_ref, gm_k_null, gm_k_u, gm_k_long, and_true, true_and, true_or, or_true, or_false, false_or, and_self, or_self, if_true, if_false, List.map_nil, List.map_cons, List.sum_nil, List.sum_cons, Nat.zero_le, Option.toList_some, Option.toList_none, List.cons_append, List.nil_append, ne_eq, not_false_eq_true, not_true_eq_false, nI_1, nI_add, Value.category, Nat.reduceAdd, Nat.reduceMod, Nat.reduceLeDiff, Nat.reduceLT, Nat.reduceEqDiff, Nat.reducePow, Nat.le_refl, Nat.add_left_cancel_iff, Nat.add_eq_left, Nat.left_eq_add, Nat.add_zero, h1, h2, A0, A8, A3, A3l, i1, i4, t1, t2, t4, t7, t8, e1]
      by_cases h3 : o.1 = 1
      · by_cases h5 : o.2.2.1.length = 1
        · obtain ⟨w, hw⟩ := List.length_eq_one_iff.mp h5
          have f0 := t10 0 w (by rw [hw]; rfl)
          simp only [r88_0, r88_0n, r88_1, r88_5, r88_8, r88_9, r88_10, r88_10n, r88_11, r88_14, r88_15, r88_16, r88_16n, r88_17, r88_17n, r88_18, r88_21, r88_22, r88_25, r88_25n, r88_26, r88_29, r88_30, r88_31, r88_34, r88_34n, r88_35, r88_38, r88_39, r88_39k, r88_40, r88_41, r88_43, r88_44, r88_47, r88_48, i32_10, reduceIte, gm_cmp1, gm_cmp3, gm_cmp4, gm_kd_sf, gm_ln_sf, gm_sf_1, gm_sf_2, gm_nw_1, gm_nw_2, gm_k_int, gm_k_ref, gm_k_null, gm_k_u, gm_k_long, and_true, true_and, true_or, or_true, or_false, false_or, and_self, or_self, if_true, if_false, List.map_nil, List.map_cons, List.sum_nil, List.sum_cons, Nat.zero_le, Option.toList_some, Option.toList_none, List.cons_append, List.nil_append, ne_eq, not_false_eq_true, not_true_eq_false, nI_1, nI_add, Value.category, Nat.reduceAdd, Nat.reduceMod, Nat.reduceLeDiff, Nat.reduceLT, Nat.reduceEqDiff, Nat.reducePow, Nat.le_refl, Nat.add_left_cancel_iff, Nat.add_eq_left, Nat.left_eq_add, Nat.add_zero, h3, h5, t1, t4, t7, t8, f0, reduceIte, Nat.lt_one_iff]
          rw [hw]
          exact ⟨rfl, rfl⟩
        · simp only [h3, h5, reduceIte]
          refine ⟨?_, rfl⟩
          split
          · rename_i hw; rw [hw] at h5; exact absurd rfl h5
          · rfl
      · simp only [h3, reduceIte]
        exact ⟨rfl, rfl⟩
/-- the class of a number, if it is there -/
def gs_cn (K : gs_K) (v : Int32) : Option Nat := if v < 0 then none else if (gs_cls K v.toNatClampNeg).isSome = true then some v.toNatClampNeg else none
theorem x_classNumbered {v : Int32} (R : gx_R E h x ca K F s) : gm_Ca E d 64 [.ref x, .int v] h (gx_v (some (gx_ow ca (gs_cn K v))) h) := by
  show gm_W E d 64 0 [.ref x, .int v] [] h _
  obtain ⟨A0, A4, -, -, -, A1, A1l, -⟩ := R.1
  unfold gs_cn
  by_cases h1 : v < 0
  · simp only [r64_0, r64_1, r64_4, r64_5, r64_7, r64_10, r64_11, r64_14, r64_14n, r64_15, r64_18, r64_19, r64_20, r64_20n, i32_10, reduceIte, gm_cmp1, gm_cmp3, gm_cmp4, gm_kd_sf, gm_ln_sf, gm_sf_1, gm_sf_2, gm_nw_1, gm_nw_2, gm_k_int, gm_k_ref, gm_k_null, gm_k_u, gm_k_long, and_true, true_and, true_or, or_true, or_false, false_or, and_self, or_self, if_true, if_false, List.map_nil, List.map_cons, List.sum_nil, List.sum_cons, Nat.zero_le, Option.toList_some, Option.toList_none, List.cons_append, List.nil_append, ne_eq, not_false_eq_true, not_true_eq_false, nI_1, nI_add, Value.category, Nat.reduceAdd, Nat.reduceMod, Nat.reduceLeDiff, Nat.reduceLT, Nat.reduceEqDiff, Nat.reducePow, Nat.le_refl, Nat.add_left_cancel_iff, Nat.add_eq_left, Nat.left_eq_add, Nat.add_zero, h1]
    exact ⟨rfl, rfl⟩
  · obtain ⟨i, hi, rfl⟩ := nI_of h1
    rw [nI_clamp hi]
    by_cases h2 : i < 6
    · have e2 : nI i < 6 := nI_lt (b := 6) h2 (by decide)
      cases hC : gs_cls K i with
      | none =>
        have f := (R.2.2.1.2 i h2).1 hC
        simp only [r64_0, r64_1, r64_4, r64_5, r64_7, r64_10, r64_11, r64_14, r64_14n, r64_15, r64_18, r64_19, r64_20, r64_20n, i32_10, reduceIte, gm_cmp1, gm_cmp3, gm_cmp4, gm_kd_sf, gm_ln_sf, gm_sf_1, gm_sf_2, gm_nw_1, gm_nw_2, gm_k_int, gm_k_ref, gm_k_null, gm_k_u, gm_k_long, and_true, true_and, true_or, or_true, or_false, false_or, and_self, or_self, if_true, if_false, List.map_nil, List.map_cons, List.sum_nil, List.sum_cons, Nat.zero_le, Option.toList_some, Option.toList_none, List.cons_append, List.nil_append, ne_eq, not_false_eq_true, not_true_eq_false, nI_1, nI_add, Value.category, Nat.reduceAdd, Nat.reduceMod, Nat.reduceLeDiff, Nat.reduceLT, Nat.reduceEqDiff, Nat.reducePow, Nat.le_refl, Nat.add_left_cancel_iff, Nat.add_eq_left, Nat.left_eq_add, Nat.add_zero, h1, e2, A0, A4, A1, A1l, h2, f]
        exact ⟨rfl, rfl⟩
      | some C =>
        have f := ((R.2.2.1.2 i h2).2 C hC).1
        simp only [r64_0, r64_1, r64_4, r64_5, r64_7, r64_10, r64_11, r64_14, r64_14n, r64_15, r64_18, r64_19, r64_20, r64_20n, i32_10, reduceIte, gm_cmp1, gm_cmp3, gm_cmp4, gm_kd_sf, gm_ln_sf, gm_sf_1, gm_sf_2, gm_nw_1, gm_nw_2, gm_k_int, gm_k_ref, gm_k_null, gm_k_u, gm_k_long, and_true, true_and, true_or, or_true, or_false, false_or, and_self, or_self, if_true, if_false, List.map_nil, List.map_cons, List.sum_nil, List.sum_cons, Nat.zero_le, Option.toList_some, Option.toList_none, List.cons_append, List.nil_append, ne_eq, not_false_eq_true, not_true_eq_false, nI_1, nI_add, Value.category, Nat.reduceAdd, Nat.reduceMod, Nat.reduceLeDiff, Nat.reduceLT, Nat.reduceEqDiff, Nat.reducePow, Nat.le_refl, Nat.add_left_cancel_iff, Nat.add_eq_left, Nat.left_eq_add, Nat.add_zero, h1, e2, A0, A4, A1, A1l, h2, f]
        exact ⟨rfl, rfl⟩
    · have e2 : ¬ nI i < 6 := nI_nlt (b := 6) (by omega) hi
      have hC : gs_cls K i = none := R.2.2.1.1.2 i (by omega)
      simp only [r64_0, r64_1, r64_4, r64_5, r64_7, r64_10, r64_11, r64_14, r64_14n, r64_15, r64_18, r64_19, r64_20, r64_20n, i32_10, reduceIte, gm_cmp1, gm_cmp3, gm_cmp4, gm_kd_sf, gm_ln_sf, gm_sf_1, gm_sf_2, gm_nw_1, gm_nw_2, gm_k_int, gm_k_ref, gm_k_null, gm_k_u, gm_k_long, and_true, true_and, true_or, or_true, or_false, false_or, and_self, or_self, if_true, if_false, List.map_nil, List.map_cons, List.sum_nil, List.sum_cons, Nat.zero_le, Option.toList_some, Option.toList_none, List.cons_append, List.nil_append, ne_eq, not_false_eq_true, not_true_eq_false, nI_1, nI_add, Value.category, Nat.reduceAdd, Nat.reduceMod, Nat.reduceLeDiff, Nat.reduceLT, Nat.reduceEqDiff, Nat.reducePow, Nat.le_refl, Nat.add_left_cancel_iff, Nat.add_eq_left, Nat.left_eq_add, Nat.add_zero, h1, e2, hC]
      exact ⟨rfl, rfl⟩
theorem x_has {a : Nat} {f g : Int32} (hk : gm_kd h a = 1) (hf : gm_fv h a 3 = .int f) : gm_Ca E d 103 [.ref a, .int g] h (gx_v (some (.int (if f &&& g = 0 then 0 else 1))) h) := by
  show gm_W E d 103 0 [.ref a, .int g] [] h _
  simp only [r103_0, r103_0n, r103_1, r103_4, r103_5, r103_6, r103_9, r103_10, r103_13, r103_14, i32_10, reduceIte, gm_cmp1, gm_cmp3, gm_cmp4, gm_kd_sf, gm_ln_sf, gm_sf_1, gm_sf_2, gm_nw_1, gm_nw_2, gm_k_int, gm_k_ref, gm_k_null, gm_k_u, gm_k_long, and_true, true_and, true_or, or_true, or_false, false_or, and_self, or_self, if_true, if_false, List.map_nil, List.map_cons, List.sum_nil, List.sum_cons, Nat.zero_le, Option.toList_some, Option.toList_none, List.cons_append, List.nil_append, ne_eq, not_false_eq_true, not_true_eq_false, nI_1, nI_add, Value.category, Nat.reduceAdd, Nat.reduceMod, Nat.reduceLeDiff, Nat.reduceLT, Nat.reduceEqDiff, Nat.reducePow, Nat.le_refl, Nat.add_left_cancel_iff, Nat.add_eq_left, Nat.left_eq_add, Nat.add_zero, hk, hf]
  by_cases h1 : f &&& g = 0 <;> simp [h1, gx_v]
theorem x_isConstant {a : Nat} {f : Int32} (hd : 1 ≤ d) (hk : gm_kd h a = 1) (hf : gm_fv h a 3 = .int f) : gm_Ca E d 104 [.ref a] h (gx_v (some (.int (if f &&& 16 = 0 then 0 else 1))) h) := by
  show gm_W E d 104 0 [.ref a] [] h _
  simp only [r104_0, r104_0n, r104_1, r104_6, i32_10, reduceIte, gm_cmp1, gm_cmp3, gm_cmp4, gm_kd_sf, gm_ln_sf, gm_sf_1, gm_sf_2, gm_nw_1, gm_nw_2, gm_k_int, gm_k_ref, gm_k_null, gm_k_u, gm_k_long, and_true, true_and, true_or, or_true, or_false, false_or, and_self, or_self, if_true, if_false, List.map_nil, List.map_cons, List.sum_nil, List.sum_cons, Nat.zero_le, Option.toList_some, Option.toList_none, List.cons_append, List.nil_append, ne_eq, not_false_eq_true, not_true_eq_false, nI_1, nI_add, Value.category, Nat.reduceAdd, Nat.reduceMod, Nat.reduceLeDiff, Nat.reduceLT, Nat.reduceEqDiff, Nat.reducePow, Nat.le_refl, Nat.add_left_cancel_iff, Nat.add_eq_left, Nat.left_eq_add, Nat.add_zero]
  refine c104_3 (by simp) hk hd (x_has hk hf) (gx_kn ?_) gx_kx
  by_cases h1 : f &&& 16 = 0
  · simp only [r104_0, r104_0n, r104_1, r104_6, i32_10, reduceIte, gm_cmp1, gm_cmp3, gm_cmp4, gm_kd_sf, gm_ln_sf, gm_sf_1, gm_sf_2, gm_nw_1, gm_nw_2, gm_k_int, gm_k_ref, gm_k_null, gm_k_u, gm_k_long, and_true, true_and, true_or, or_true, or_false, false_or, and_self, or_self, if_true, if_false, List.map_nil, List.map_cons, List.sum_nil, List.sum_cons, Nat.zero_le, Option.toList_some, Option.toList_none, List.cons_append, List.nil_append, ne_eq, not_false_eq_true, not_true_eq_false, nI_1, nI_add, Value.category, Nat.reduceAdd, Nat.reduceMod, Nat.reduceLeDiff, Nat.reduceLT, Nat.reduceEqDiff, Nat.reducePow, Nat.le_refl, Nat.add_left_cancel_iff, Nat.add_eq_left, Nat.left_eq_add, Nat.add_zero, h1]; exact ⟨rfl, rfl⟩
  · simp only [r104_0, r104_0n, r104_1, r104_6, i32_10, reduceIte, gm_cmp1, gm_cmp3, gm_cmp4, gm_kd_sf, gm_ln_sf, gm_sf_1, gm_sf_2, gm_nw_1, gm_nw_2, gm_k_int, gm_k_ref, gm_k_null, gm_k_u, gm_k_long, and_true, true_and, true_or, or_true, or_false, false_or, and_self, or_self, if_true, if_false, List.map_nil, List.map_cons, List.sum_nil, List.sum_cons, Nat.zero_le, Option.toList_some, Option.toList_none, List.cons_append, List.nil_append, ne_eq, not_false_eq_true, not_true_eq_false, nI_1, nI_add, Value.category, Nat.reduceAdd, Nat.reduceMod, Nat.reduceLeDiff, Nat.reduceLT, Nat.reduceEqDiff, Nat.reducePow, Nat.le_refl, Nat.add_left_cancel_iff, Nat.add_eq_left, Nat.left_eq_add, Nat.add_zero, h1]; exact ⟨rfl, rfl⟩
def gs_ixi (fs : List (Int32 × Int32)) (v : Int32) : Int32 := match gs_ix fs v with
  | none => -1
  | some j => nI j
theorem x_indexOf {c : Nat} {C : gs_C} {a : Nat} {v : Int32} (q : gx_cl h x ca F c C a) : gm_Ca E d 115 [.ref a, .int v] h (gx_v (some (.int (gs_ixi (gs_fs C) v))) h) := by
  obtain ⟨-, k3, -, -, -, -, p4, p5, p6, -, -, l4, n1, n2, n3, n4, nn⟩ := q
  have loop : ∀ (m k : Nat), k + m = (gs_fs C).length → (∀ j (hj : j < (gs_fs C).length), j < k → ¬ (gs_fs C)[j].1 = v) → gm_W E d 115 2 [.ref a, .int v, .int (nI k)] [] h (gx_v (some (.int (gs_ixi (gs_fs C) v))) h) := by
    intro m
    induction m with
    | zero =>
      intro k hk hn
      have hk : k = (gs_fs C).length := by omega
      subst hk
      simp only [r115_0, r115_1, r115_2, r115_3, r115_3n, r115_4, r115_7, r115_10, r115_10n, r115_11, r115_14, r115_15, r115_16, r115_17, r115_20, r115_21, r115_22, r115_25, r115_28, r115_29, i32_10, reduceIte, gm_cmp1, gm_cmp3, gm_cmp4, gm_kd_sf, gm_ln_sf, gm_sf_1, gm_sf_2, gm_nw_1, gm_nw_2, gm_k_int, gm_k_ref, gm_k_null, gm_k_u, gm_k_long, and_true, true_and, true_or, or_true, or_false, false_or, and_self, or_self, if_true, if_false, List.map_nil, List.map_cons, List.sum_nil, List.sum_cons, Nat.zero_le, Option.toList_some, Option.toList_none, List.cons_append, List.nil_append, ne_eq, not_false_eq_true, not_true_eq_false, nI_1, nI_add, Value.category, Nat.reduceAdd, Nat.reduceMod, Nat.reduceLeDiff, Nat.reduceLT, Nat.reduceEqDiff, Nat.reducePow, Nat.le_refl, Nat.add_left_cancel_iff, Nat.add_eq_left, Nat.left_eq_add, Nat.add_zero, k3, p6, nI_leT (Nat.le_refl (gs_fs C).length) (show (gs_fs C).length < 2 ^ 31 by omega)]
      refine ⟨?_, rfl⟩
      have e : gs_ix (gs_fs C) v = none := by
        unfold gs_ix
        rw [List.findIdx?_eq_none_iff]
        intro q hq
        obtain ⟨j, hj, rfl⟩ := List.getElem_of_mem hq
        simpa using hn j hj hj
      unfold gs_ixi
      rw [e]
    | succ m ih =>
      intro k hk hn
      have hl : k < (gs_fs C).length := by omega
      have hl4 : k < 4 := by omega
      have f1 := (nn k _ (List.getElem?_eq_getElem hl)).1
      rw [r115_2]
      simp only [r115_0, r115_1, r115_3, r115_3n, r115_4, r115_7, r115_10, r115_10n, r115_11, r115_14, r115_15, r115_16, r115_17, r115_20, r115_21, r115_22, r115_25, r115_28, r115_29, i32_10, reduceIte, gm_cmp1, gm_cmp3, gm_cmp4, gm_kd_sf, gm_ln_sf, gm_sf_1, gm_sf_2, gm_nw_1, gm_nw_2, gm_k_int, gm_k_ref, gm_k_null, gm_k_u, gm_k_long, and_true, true_and, true_or, or_true, or_false, false_or, and_self, or_self, if_true, if_false, List.map_nil, List.map_cons, List.sum_nil, List.sum_cons, Nat.zero_le, Option.toList_some, Option.toList_none, List.cons_append, List.nil_append, ne_eq, not_false_eq_true, not_true_eq_false, nI_1, nI_add, Value.category, Nat.reduceAdd, Nat.reduceMod, Nat.reduceLeDiff, Nat.reduceLT, Nat.reduceEqDiff, Nat.reducePow, Nat.le_refl, Nat.add_left_cancel_iff, Nat.add_eq_left, Nat.left_eq_add, Nat.add_zero, k3, p6, nI_leF hl (show (gs_fs C).length < 2 ^ 31 by omega), p4, n1, n2, hl4, f1]
      by_cases hv : (gs_fs C)[k].1 = v
      · simp only [hv, reduceIte]
        refine ⟨?_, rfl⟩
        have e : gs_ix (gs_fs C) v = some k := by
          unfold gs_ix
          rw [List.findIdx?_eq_some_iff_getElem]
          exact ⟨hl, by simpa using hv, fun j hj => by simpa using hn j (by omega) hj⟩
        unfold gs_ixi
        rw [e]
      · simp only [hv, reduceIte]
        refine ih (k + 1) (by omega) (fun j hj hjk => ?_)
        by_cases e : j = k
        · subst e; exact hv
        · exact hn j hj (by omega)
  show gm_W E d 115 0 [.ref a, .int v, gm_u] [] h _
  simp only [r115_0, r115_1, r115_3, r115_3n, r115_4, r115_7, r115_10, r115_10n, r115_11, r115_14, r115_15, r115_16, r115_17, r115_20, r115_21, r115_22, r115_25, r115_28, r115_29, i32_10, reduceIte, gm_cmp1, gm_cmp3, gm_cmp4, gm_kd_sf, gm_ln_sf, gm_sf_1, gm_sf_2, gm_nw_1, gm_nw_2, gm_k_int, gm_k_ref, gm_k_null, gm_k_u, gm_k_long, and_true, true_and, true_or, or_true, or_false, false_or, and_self, or_self, if_true, if_false, List.map_nil, List.map_cons, List.sum_nil, List.sum_cons, Nat.zero_le, Option.toList_some, Option.toList_none, List.cons_append, List.nil_append, ne_eq, not_false_eq_true, not_true_eq_false, nI_1, nI_add, Value.category, Nat.reduceAdd, Nat.reduceMod, Nat.reduceLeDiff, Nat.reduceLT, Nat.reduceEqDiff, Nat.reducePow, Nat.le_refl, Nat.add_left_cancel_iff, Nat.add_eq_left, Nat.left_eq_add, Nat.add_zero]
  exact loop (gs_fs C).length 0 (by omega) (fun j hj z => by omega)
end X5
