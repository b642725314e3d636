/-! THE CLASS, 24: define, constant. -/
section Z7
variable {E : Nat → Value} {d x b : Nat} {h h' : gm_H} {ca ca' : Nat → Nat} {K K' : gs_K} {F G : Nat → Prop} {s : gs_S} {lf : Int32}
def gx_defQ (E : Nat → Value) (h : gm_H) (x : Nat) (ca : Nat → Nat) (K : gs_K) (s : gs_S) (lf n k u : Int32) (id : Int64) : gm_R → gm_H → Prop := fun r h' =>
  if gs_defok K n k u = true then r = .inl (some (.int 0)) ∧ gx_X E h' x (fun c => if c = n.toNatClampNeg then h.1 else ca c) (gs_def1 K n.toNatClampNeg (k, gs_defsup u, id, [], false, 0)) s lf ∧ h'.1 = h.1 + 3 ∧ h'.2.1 = h.2.1 + 17
  else r = .inl (some (.int (-1))) ∧ h' = h
theorem gs_ext_if {k a : Int32} : (if 2 < a then (0 : Int32) else if k ≤ 2 then (if k = 0 then (if a = 0 then 1 else 0) else 1) else 0) = if gs_ext k a = true then 1 else 0 := by
  unfold gs_ext
  by_cases h1 : 2 < a
  · simp [h1]
  · by_cases h2 : k ≤ 2
    · by_cases h3 : k = 0
      · by_cases h4 : a = 0 <;> simp [h1, h2, h3, h4]
      · simp [h1, h2, h3]
    · simp [h1, h2]
theorem x_define {n k u : Int32} {id : Int64} (hd : 1 ≤ d) (X : gx_X E h x ca K s lf) : gm_Ca E d 52 [.ref x, .int n, .int k, .int u, .long id] h (gx_defQ E h x ca K s lf n k u id) := by
  obtain ⟨R, f11⟩ := X
  have ht := R.top
  obtain ⟨A0, A4, -, -, -, A1, A1l, -⟩ := R.1
  show gm_W E d 52 0 [.ref x, .int n, .int k, .int u, .long id, gm_u, gm_u] [] h _
  have no : gs_defok K n k u = false → gx_defQ E h x ca K s lf n k u id (.inl (some (.int (-1)))) h := by
    intro e
    unfold gx_defQ
    rw [e]
    exact ⟨rfl, rfl⟩
  have n19 : gs_defok K n k u = false → ∀ w6 : Value, gm_W E d 52 19 [.ref x, .int n, .int k, .int u, .long id, gm_u, w6] [] h (gx_defQ E h x ca K s lf n k u id) := fun e w6 => by
    simp only [r52_0, r52_1, r52_4, r52_5, r52_7, r52_10, r52_11, r52_14, r52_15, r52_16, r52_19, r52_20, r52_21, r52_22, r52_23, r52_26, r52_27, r52_28, r52_31, r52_31n, r52_32, r52_35, r52_36, r52_37n, r52_37, r52_40, r52_41, r52_42, r52_43, r52_43n, r52_45, r52_46, r52_49, r52_49n, r52_50, r52_53, r52_54, r52_55, r52_55n, r52_57, r52_57n, r52_59n, r52_59, r52_62, r52_63, r52_63n, r52_65, r52_71, r52_74, r52_75, r52_76, r52_76n, r52_77, r52_80, r52_81, r52_84, r52_84i, r52_85, r52_86, r52_87, r52_87n, r52_89, r52_94, r52_94n, r52_95, r52_96, i32_10, reduceIte, gm_cmp1, gm_cmp3, gm_cmp4, gm_kd_sf, gm_ln_sf, gm_sf_1, gm_sf_2, gm_nw_1, gm_nw_2, gm_k_int, gm_k_ref, gm_k_null, gm_k_u, gm_k_long, and_true, true_and, true_or, or_true, or_false, false_or, and_self, or_self, if_true, if_false, List.map_nil, List.map_cons, List.sum_nil, List.sum_cons, Nat.zero_le, Option.toList_some, Option.toList_none, List.cons_append, List.nil_append, ne_eq, not_false_eq_true, not_true_eq_false, nI_1, nI_add, Value.category, Nat.reduceAdd, Nat.reduceMod, Nat.reduceLeDiff, Nat.reduceLT, Nat.reduceEqDiff, Nat.reducePow, Nat.le_refl, Nat.add_left_cancel_iff, Nat.add_eq_left, Nat.left_eq_add, Nat.add_zero]; exact no e
  have n40 : gs_defok K n k u = false → ∀ w6 : Value, gm_W E d 52 40 [.ref x, .int n, .int k, .int u, .long id, gm_u, w6] [] h (gx_defQ E h x ca K s lf n k u id) := fun e w6 => by
    simp only [r52_0, r52_1, r52_4, r52_5, r52_7, r52_10, r52_11, r52_14, r52_15, r52_16, r52_19, r52_20, r52_21, r52_22, r52_23, r52_26, r52_27, r52_28, r52_31, r52_31n, r52_32, r52_35, r52_36, r52_37n, r52_37, r52_40, r52_41, r52_42, r52_43, r52_43n, r52_45, r52_46, r52_49, r52_49n, r52_50, r52_53, r52_54, r52_55, r52_55n, r52_57, r52_57n, r52_59n, r52_59, r52_62, r52_63, r52_63n, r52_65, r52_71, r52_74, r52_75, r52_76, r52_76n, r52_77, r52_80, r52_81, r52_84, r52_84i, r52_85, r52_86, r52_87, r52_87n, r52_89, r52_94, r52_94n, r52_95, r52_96, i32_10, reduceIte, gm_cmp1, gm_cmp3, gm_cmp4, gm_kd_sf, gm_ln_sf, gm_sf_1, gm_sf_2, gm_nw_1, gm_nw_2, gm_k_int, gm_k_ref, gm_k_null, gm_k_u, gm_k_long, and_true, true_and, true_or, or_true, or_false, false_or, and_self, or_self, if_true, if_false, List.map_nil, List.map_cons, List.sum_nil, List.sum_cons, Nat.zero_le, Option.toList_some, Option.toList_none, List.cons_append, List.nil_append, ne_eq, not_false_eq_true, not_true_eq_false, nI_1, nI_add, Value.category, Nat.reduceAdd, Nat.reduceMod, Nat.reduceLeDiff, Nat.reduceLT, Nat.reduceEqDiff, Nat.reducePow, Nat.le_refl, Nat.add_left_cancel_iff, Nat.add_eq_left, Nat.left_eq_add, Nat.add_zero]; exact no e
  have n74 : gs_defok K n k u = false → ∀ w6 : Value, gm_W E d 52 74 [.ref x, .int n, .int k, .int u, .long id, gm_u, w6] [] h (gx_defQ E h x ca K s lf n k u id) := fun e w6 => by
    simp only [r52_0, r52_1, r52_4, r52_5, r52_7, r52_10, r52_11, r52_14, r52_15, r52_16, r52_19, r52_20, r52_21, r52_22, r52_23, r52_26, r52_27, r52_28, r52_31, r52_31n, r52_32, r52_35, r52_36, r52_37n, r52_37, r52_40, r52_41, r52_42, r52_43, r52_43n, r52_45, r52_46, r52_49, r52_49n, r52_50, r52_53, r52_54, r52_55, r52_55n, r52_57, r52_57n, r52_59n, r52_59, r52_62, r52_63, r52_63n, r52_65, r52_71, r52_74, r52_75, r52_76, r52_76n, r52_77, r52_80, r52_81, r52_84, r52_84i, r52_85, r52_86, r52_87, r52_87n, r52_89, r52_94, r52_94n, r52_95, r52_96, i32_10, reduceIte, gm_cmp1, gm_cmp3, gm_cmp4, gm_kd_sf, gm_ln_sf, gm_sf_1, gm_sf_2, gm_nw_1, gm_nw_2, gm_k_int, gm_k_ref, gm_k_null, gm_k_u, gm_k_long, and_true, true_and, true_or, or_true, or_false, false_or, and_self, or_self, if_true, if_false, List.map_nil, List.map_cons, List.sum_nil, List.sum_cons, Nat.zero_le, Option.toList_some, Option.toList_none, List.cons_append, List.nil_append, ne_eq, not_false_eq_true, not_true_eq_false, nI_1, nI_add, Value.category, Nat.reduceAdd, Nat.reduceMod, Nat.reduceLeDiff, Nat.reduceLT, Nat.reduceEqDiff, Nat.reducePow, Nat.le_refl, Nat.add_left_cancel_iff, Nat.add_eq_left, Nat.left_eq_add, Nat.add_zero]; exact no e
  by_cases h1 : n < 0
  · simp only [r52_0, r52_1, r52_4, r52_5, r52_7, r52_10, r52_11, r52_14, r52_15, r52_16, r52_20, r52_21, r52_22, r52_23, r52_26, r52_27, r52_28, r52_31, r52_31n, r52_32, r52_35, r52_36, r52_37n, r52_37, r52_40, r52_41, r52_42, r52_43, r52_43n, r52_45, r52_46, r52_49, r52_49n, r52_50, r52_53, r52_54, r52_55, r52_55n, r52_57, r52_57n, r52_59n, r52_59, r52_62, r52_63, r52_63n, r52_65, r52_71, r52_74, r52_75, r52_76, r52_76n, r52_77, r52_80, r52_81, r52_84, r52_84i, r52_85, r52_86, r52_87, r52_87n, r52_89, r52_94, r52_94n, r52_95, r52_96, i32_10, reduceIte, gm_cmp1, gm_cmp3, gm_cmp4, gm_kd_sf, gm_ln_sf, gm_sf_1, gm_sf_2, gm_nw_1, gm_nw_2, gm_k_int, gm_k_ref, gm_k_null, gm_k_u, gm_k_long, and_true, true_and, true_or, or_true, or_false, false_or, and_self, or_self, if_true, if_false, List.map_nil, List.map_cons, List.sum_nil, List.sum_cons, Nat.zero_le, Option.toList_some, Option.toList_none, List.cons_append, List.nil_append, ne_eq, not_false_eq_true, not_true_eq_false, nI_1, nI_add, Value.category, Nat.reduceAdd, Nat.reduceMod, Nat.reduceLeDiff, Nat.reduceLT, Nat.reduceEqDiff, Nat.reducePow, Nat.le_refl, Nat.add_left_cancel_iff, Nat.add_eq_left, Nat.left_eq_add, Nat.add_zero, h1]
    exact n19 (by unfold gs_defok; simp [Int32.not_le.mpr h1]) _
  by_cases h2 : 6 ≤ n
  · simp only [r52_0, r52_1, r52_4, r52_5, r52_7, r52_10, r52_11, r52_14, r52_15, r52_16, r52_20, r52_21, r52_22, r52_23, r52_26, r52_27, r52_28, r52_31, r52_31n, r52_32, r52_35, r52_36, r52_37n, r52_37, r52_40, r52_41, r52_42, r52_43, r52_43n, r52_45, r52_46, r52_49, r52_49n, r52_50, r52_53, r52_54, r52_55, r52_55n, r52_57, r52_57n, r52_59n, r52_59, r52_62, r52_63, r52_63n, r52_65, r52_71, r52_74, r52_75, r52_76, r52_76n, r52_77, r52_80, r52_81, r52_84, r52_84i, r52_85, r52_86, r52_87, r52_87n, r52_89, r52_94, r52_94n, r52_95, r52_96, i32_10, reduceIte, gm_cmp1, gm_cmp3, gm_cmp4, gm_kd_sf, gm_ln_sf, gm_sf_1, gm_sf_2, gm_nw_1, gm_nw_2, gm_k_int, gm_k_ref, gm_k_null, gm_k_u, gm_k_long, and_true, true_and, true_or, or_true, or_false, false_or, and_self, or_self, if_true, if_false, List.map_nil, List.map_cons, List.sum_nil, List.sum_cons, Nat.zero_le, Option.toList_some, Option.toList_none, List.cons_append, List.nil_append, ne_eq, not_false_eq_true, not_true_eq_false, nI_1, nI_add, Value.category, Nat.reduceAdd, Nat.reduceMod, Nat.reduceLeDiff, Nat.reduceLT, Nat.reduceEqDiff, Nat.reducePow, Nat.le_refl, Nat.add_left_cancel_iff, Nat.add_eq_left, Nat.left_eq_add, Nat.add_zero, h1, h2]
    exact n19 (by unfold gs_defok; simp [Int32.not_lt.mpr h2]) _
  by_cases h3 : k < 0
  · simp only [r52_0, r52_1, r52_4, r52_5, r52_7, r52_10, r52_11, r52_14, r52_15, r52_16, r52_20, r52_21, r52_22, r52_23, r52_26, r52_27, r52_28, r52_31, r52_31n, r52_32, r52_35, r52_36, r52_37n, r52_37, r52_40, r52_41, r52_42, r52_43, r52_43n, r52_45, r52_46, r52_49, r52_49n, r52_50, r52_53, r52_54, r52_55, r52_55n, r52_57, r52_57n, r52_59n, r52_59, r52_62, r52_63, r52_63n, r52_65, r52_71, r52_74, r52_75, r52_76, r52_76n, r52_77, r52_80, r52_81, r52_84, r52_84i, r52_85, r52_86, r52_87, r52_87n, r52_89, r52_94, r52_94n, r52_95, r52_96, i32_10, reduceIte, gm_cmp1, gm_cmp3, gm_cmp4, gm_kd_sf, gm_ln_sf, gm_sf_1, gm_sf_2, gm_nw_1, gm_nw_2, gm_k_int, gm_k_ref, gm_k_null, gm_k_u, gm_k_long, and_true, true_and, true_or, or_true, or_false, false_or, and_self, or_self, if_true, if_false, List.map_nil, List.map_cons, List.sum_nil, List.sum_cons, Nat.zero_le, Option.toList_some, Option.toList_none, List.cons_append, List.nil_append, ne_eq, not_false_eq_true, not_true_eq_false, nI_1, nI_add, Value.category, Nat.reduceAdd, Nat.reduceMod, Nat.reduceLeDiff, Nat.reduceLT, Nat.reduceEqDiff, Nat.reducePow, Nat.le_refl, Nat.add_left_cancel_iff, Nat.add_eq_left, Nat.left_eq_add, Nat.add_zero, h1, h2, h3]
    exact n19 (by unfold gs_defok; simp [Int32.not_le.mpr h3]) _
  by_cases h4 : ¬ k ≤ 4
  · simp only [r52_0, r52_1, r52_4, r52_5, r52_7, r52_10, r52_11, r52_14, r52_15, r52_16, r52_20, r52_21, r52_22, r52_23, r52_26, r52_27, r52_28, r52_31, r52_31n, r52_32, r52_35, r52_36, r52_37n, r52_37, r52_40, r52_41, r52_42, r52_43, r52_43n, r52_45, r52_46, r52_49, r52_49n, r52_50, r52_53, r52_54, r52_55, r52_55n, r52_57, r52_57n, r52_59n, r52_59, r52_62, r52_63, r52_63n, r52_65, r52_71, r52_74, r52_75, r52_76, r52_76n, r52_77, r52_80, r52_81, r52_84, r52_84i, r52_85, r52_86, r52_87, r52_87n, r52_89, r52_94, r52_94n, r52_95, r52_96, i32_10, reduceIte, gm_cmp1, gm_cmp3, gm_cmp4, gm_kd_sf, gm_ln_sf, gm_sf_1, gm_sf_2, gm_nw_1, gm_nw_2, gm_k_int, gm_k_ref, gm_k_null, gm_k_u, gm_k_long, and_true, true_and, true_or, or_true, or_false, false_or, and_self, or_self, if_true, if_false, List.map_nil, List.map_cons, List.sum_nil, List.sum_cons, Nat.zero_le, Option.toList_some, Option.toList_none, List.cons_append, List.nil_append, ne_eq, not_false_eq_true, not_true_eq_false, nI_1, nI_add, Value.category, Nat.reduceAdd, Nat.reduceMod, Nat.reduceLeDiff, Nat.reduceLT, Nat.reduceEqDiff, Nat.reducePow, Nat.le_refl, Nat.add_left_cancel_iff, Nat.add_eq_left, Nat.left_eq_add, Nat.add_zero, h1, h2, h3, h4]
    exact n19 (by unfold gs_defok; simp [h4]) _
  have h4 : k ≤ 4 := Decidable.of_not_not h4
  by_cases h5 : u < -1
  · simp only [r52_0, r52_1, r52_4, r52_5, r52_7, r52_10, r52_11, r52_14, r52_15, r52_16, r52_19, r52_20, r52_21, r52_22, r52_23, r52_26, r52_27, r52_28, r52_31, r52_31n, r52_32, r52_35, r52_36, r52_37n, r52_37, r52_41, r52_42, r52_43, r52_43n, r52_45, r52_46, r52_49, r52_49n, r52_50, r52_53, r52_54, r52_55, r52_55n, r52_57, r52_57n, r52_59n, r52_59, r52_62, r52_63, r52_63n, r52_65, r52_71, r52_74, r52_75, r52_76, r52_76n, r52_77, r52_80, r52_81, r52_84, r52_84i, r52_85, r52_86, r52_87, r52_87n, r52_89, r52_94, r52_94n, r52_95, r52_96, i32_10, reduceIte, gm_cmp1, gm_cmp3, gm_cmp4, gm_kd_sf, gm_ln_sf, gm_sf_1, gm_sf_2, gm_nw_1, gm_nw_2, gm_k_int, gm_k_ref, gm_k_null, gm_k_u, gm_k_long, and_true, true_and, true_or, or_true, or_false, false_or, and_self, or_self, if_true, if_false, List.map_nil, List.map_cons, List.sum_nil, List.sum_cons, Nat.zero_le, Option.toList_some, Option.toList_none, List.cons_append, List.nil_append, ne_eq, not_false_eq_true, not_true_eq_false, nI_1, nI_add, Value.category, Nat.reduceAdd, Nat.reduceMod, Nat.reduceLeDiff, Nat.reduceLT, Nat.reduceEqDiff, Nat.reducePow, Nat.le_refl, Nat.add_left_cancel_iff, Nat.add_eq_left, Nat.left_eq_add, Nat.add_zero, h1, h2, h3, h4, h5]
    exact n40 (by unfold gs_defok; simp [Int32.not_le.mpr h5]) _
  by_cases h6 : n ≤ u
  · simp only [r52_0, r52_1, r52_4, r52_5, r52_7, r52_10, r52_11, r52_14, r52_15, r52_16, r52_19, r52_20, r52_21, r52_22, r52_23, r52_26, r52_27, r52_28, r52_31, r52_31n, r52_32, r52_35, r52_36, r52_37n, r52_37, r52_41, r52_42, r52_43, r52_43n, r52_45, r52_46, r52_49, r52_49n, r52_50, r52_53, r52_54, r52_55, r52_55n, r52_57, r52_57n, r52_59n, r52_59, r52_62, r52_63, r52_63n, r52_65, r52_71, r52_74, r52_75, r52_76, r52_76n, r52_77, r52_80, r52_81, r52_84, r52_84i, r52_85, r52_86, r52_87, r52_87n, r52_89, r52_94, r52_94n, r52_95, r52_96, i32_10, reduceIte, gm_cmp1, gm_cmp3, gm_cmp4, gm_kd_sf, gm_ln_sf, gm_sf_1, gm_sf_2, gm_nw_1, gm_nw_2, gm_k_int, gm_k_ref, gm_k_null, gm_k_u, gm_k_long, and_true, true_and, true_or, or_true, or_false, false_or, and_self, or_self, if_true, if_false, List.map_nil, List.map_cons, List.sum_nil, List.sum_cons, Nat.zero_le, Option.toList_some, Option.toList_none, List.cons_append, List.nil_append, ne_eq, not_false_eq_true, not_true_eq_false, nI_1, nI_add, Value.category, Nat.reduceAdd, Nat.reduceMod, Nat.reduceLeDiff, Nat.reduceLT, Nat.reduceEqDiff, Nat.reducePow, Nat.le_refl, Nat.add_left_cancel_iff, Nat.add_eq_left, Nat.left_eq_add, Nat.add_zero, h1, h2, h3, h4, h5, h6]
    exact n40 (by unfold gs_defok; simp [Int32.not_lt.mpr h6]) _
  obtain ⟨m, hm, rfl⟩ := nI_of h1
  have hm6 : m < 6 := (nI_ltI (b := 6) hm (by decide)).mp (Int32.not_le.mp h2)
  have p1 : 0 ≤ nI m := nI_pos' hm
  have p2 : nI m < 6 := Int32.not_le.mp h2
  have p3 : 0 ≤ k := Int32.not_lt.mp h3
  have p5 : -1 ≤ u := Int32.not_lt.mp h5
  have p6 : u < nI m := Int32.not_le.mp h6
  cases hC : gs_cls K m with
  | some C =>
    have f := ((R.2.2.1.2 m hm6).2 C hC).1
    simp only [r52_0, r52_1, r52_4, r52_5, r52_7, r52_10, r52_11, r52_14, r52_15, r52_16, r52_19, r52_20, r52_21, r52_22, r52_23, r52_26, r52_27, r52_28, r52_31, r52_31n, r52_32, r52_35, r52_36, r52_37n, r52_37, r52_41, r52_42, r52_43, r52_43n, r52_45, r52_46, r52_49, r52_49n, r52_50, r52_53, r52_54, r52_55, r52_55n, r52_57, r52_57n, r52_59n, r52_59, r52_62, r52_63, r52_63n, r52_65, r52_71, r52_74, r52_75, r52_76, r52_76n, r52_77, r52_80, r52_81, r52_84, r52_84i, r52_85, r52_86, r52_87, r52_87n, r52_89, r52_94, r52_94n, r52_95, r52_96, i32_10, reduceIte, gm_cmp1, gm_cmp3, gm_cmp4, gm_kd_sf, gm_ln_sf, gm_sf_1, gm_sf_2, gm_nw_1, gm_nw_2, gm_k_int, gm_k_ref, gm_k_null, gm_k_u, gm_k_long, and_true, true_and, true_or, or_true, or_false, false_or, and_self, or_self, if_true, if_false, List.map_nil, List.map_cons, List.sum_nil, List.sum_cons, Nat.zero_le, Option.toList_some, Option.toList_none, List.cons_append, List.nil_append, ne_eq, not_false_eq_true, not_true_eq_false, nI_1, nI_add, Value.category, Nat.reduceAdd, Nat.reduceMod, Nat.reduceLeDiff, Nat.reduceLT, Nat.reduceEqDiff, Nat.reducePow, Nat.le_refl, Nat.add_left_cancel_iff, Nat.add_eq_left, Nat.left_eq_add, Nat.add_zero, h1, h2, h3, h4, h5, h6, A0, A4, A1, A1l, hm6, f]
    exact n40 (by unfold gs_defok; simp [nI_clamp hm, hC]) _
  | none =>
    have f := (R.2.2.1.2 m hm6).1 hC
    -- the class is made
    have mk : gs_defok K (nI m) k u = true → (∀ c, gs_defsup u = some c → c < m ∧ (gs_cls K c).isSome = true) → gm_W E d 52 76 [.ref x, .int (nI m), .int k, .int u, .long id, gm_u, gx_ow ca (gs_defsup u)] [] h (gx_defQ E h x ca K s lf (nI m) k u id) := by
      intro ok hsup
      obtain ⟨h3, h3e⟩ : ∃ h3, h3 = gx_mc (gx_c1 h) h.1 (nI m) k (gx_ow ca (gs_defsup u)) id := ⟨_, rfl⟩
      have r3 : ∀ b, b < h.1 → gm_rd h3 b = gm_rd h b := by rw [h3e]; exact gx_mc_rd
      have c3 : h3.1 = h.1 + 3 ∧ h3.2.1 = h.2.1 + 17 := by rw [h3e]; exact gx_mc_1
      have cl3 : gx_cl h3 x ca (fun _ => False) m (k, gs_defsup u, id, [], false, 0) h.1 := by rw [h3e]; exact gx_mc_cl ht
      have R3 : gx_R E h3 x ca K (fun _ => False) s := R.far (by omega) r3
      obtain ⟨B0, B4, -, -, -, B1, B1l, -⟩ := R3.1
      have k3 := cl3.2.1
      have k3' : gm_kd h3 h.1 < 6 := by rw [k3]; decide
      have fin : gm_W E d 52 94 [.ref x, .int (nI m), .int k, .int u, .long id, gm_u, gx_ow ca (gs_defsup u)] [.ref h.1, .int (nI m), .ref (x + 1)] h3 (gx_defQ E h x ca K s lf (nI m) k u id) := by
        have l36 : (3 : Nat) < 6 := by decide
        simp only [r52_0, r52_1, r52_4, r52_5, r52_7, r52_10, r52_11, r52_14, r52_15, r52_16, r52_19, r52_20, r52_21, r52_22, r52_23, r52_26, r52_27, r52_28, r52_31, r52_31n, r52_32, r52_35, r52_36, r52_37n, r52_37, r52_40, r52_41, r52_42, r52_43, r52_43n, r52_45, r52_46, r52_49, r52_49n, r52_50, r52_53, r52_54, r52_55, r52_55n, r52_57, r52_57n, r52_59n, r52_59, r52_62, r52_63, r52_63n, r52_65, r52_71, r52_74, r52_75, r52_76, r52_76n, r52_77, r52_80, r52_81, r52_84, r52_84i, r52_85, r52_86, r52_87, r52_87n, r52_89, r52_94, r52_94n, r52_95, r52_96, i32_10, reduceIte, gm_cmp1, gm_cmp3, gm_cmp4, gm_kd_sf, gm_ln_sf, gm_sf_1, gm_sf_2, gm_nw_1, gm_nw_2, gm_k_int, gm_k_ref, gm_k_null, gm_k_u, gm_k_long, and_true, true_and, true_or, or_true, or_false, false_or, and_self, or_self, if_true, if_false, List.map_nil, List.map_cons, List.sum_nil, List.sum_cons, Nat.zero_le, Option.toList_some, Option.toList_none, List.cons_append, List.nil_append, ne_eq, not_false_eq_true, not_true_eq_false, nI_1, nI_add, Value.category, Nat.reduceAdd, Nat.reduceMod, Nat.reduceLeDiff, Nat.reduceLT, Nat.reduceEqDiff, Nat.reducePow, Nat.le_refl, Nat.add_left_cancel_iff, Nat.add_eq_left, Nat.left_eq_add, Nat.add_zero, k3, l36, B1, B1l, hm6]
        unfold gx_defQ
        rw [if_pos ok, nI_clamp hm]
        obtain ⟨h4, h4e⟩ : ∃ h4, h4 = gm_sf h3 (x + 1) m (.ref h.1) := ⟨_, rfl⟩
        rw [← h4e]
        have c4 : h4.1 = h3.1 ∧ h4.2.1 = h3.2.1 := by rw [h4e]; simp only [gm_sf_1, gm_sf_2, and_self]
        have hf4 : ∀ b j, b ≠ x + 1 → gm_fv h4 b j = gm_fv h3 b j := fun b j hb => by rw [h4e]; exact gm_fv_sfa hb
        have g4 : gx_ag h3 h4 x (fun _ => False) := by rw [h4e]; exact gx_ag.sf (gx_ok.no (by omega))
        have g : gx_ag h h4 x (fun _ => False) := (show gx_ag h h3 x (fun _ => False) from ⟨by omega, fun b o => r3 b o.2.1⟩).trans g4
        have r4 : ∀ b, b < h.1 → b ≠ x + 1 → gm_rd h4 b = gm_rd h b := fun b hb hb1 => by rw [h4e, gm_rd_sfn hb1]; exact r3 b hb
        have C4 := R.2.2.1.def1 (h' := h4) (C := (k, gs_defsup u, id, [], false, 0)) hm6 hC r4 ht (by omega) (fun c hc => by rw [h4e, gm_fv_sfj hc]; exact gv_fv (r3 _ (by omega))) (by rw [h4e]; exact gm_fv_sf (by omega)) (cl3.tr g4) hsup
        refine ⟨rfl, ⟨?_, by rw [hf4 _ _ (by omega), gv_fv (r3 x (by omega))]; exact f11⟩, by omega, by omega⟩
        refine R.chg (h' := h4) (K' := gs_def1 K m (k, gs_defsup u, id, [], false, 0)) g ?_ ?_ C4 ?_ (fun i _ => by rw [hf4 _ _ (by omega)]; exact gv_fv (r3 _ (by omega))) (fun i _ => ⟨by rw [hf4 _ _ (by omega)]; exact gv_fv (r3 _ (by omega)), by rw [hf4 _ _ (by omega)]; exact gv_fv (r3 _ (by omega))⟩) (Nat.le_refl _) (fun c z => ?_) (fun c z => ?_)
        · have z := R3.1
          unfold gx_A at z ⊢
          simp only [hf4 x _ (by omega), hf4 (x + 4) _ (by omega), c4.1]
          rw [h4e]
          simp only [gm_kd_sf, gm_ln_sf]
          exact z
        · have z := R3.2.1
          unfold gx_B at z ⊢
          simp only [hf4 x _ (by omega), hf4 (x + 2) _ (by omega)]
          exact z
        · have z := R3.2.2.2.1
          unfold gx_M at z ⊢
          simp only [hf4 x _ (by omega), hf4 (x + 4) _ (by omega)]
          exact z
        · have hne : c ≠ m := fun e => by rw [e, hC] at z; cases z
          refine ⟨?_, by simp [hne]⟩
          show (if c = m then _ else gs_cls K c).isSome = true
          rw [if_neg hne]; exact z
        · have z : (if c = m then some (k, gs_defsup u, id, [], false, 0) else gs_cls K c).isSome = true := z
          by_cases e : c = m
          · right
            show h.1 ≤ (if c = m then h.1 else ca c)
            rw [if_pos e]
            exact Nat.le_refl _
          · left
            rw [if_neg e] at z
            exact ⟨z, by simp [e]⟩
      cases hu : gs_defsup u with
      | none =>
        rw [hu] at fin h3e
        simp only [r52_0, r52_1, r52_4, r52_5, r52_7, r52_10, r52_11, r52_14, r52_15, r52_16, r52_19, r52_20, r52_21, r52_22, r52_23, r52_26, r52_27, r52_28, r52_31, r52_31n, r52_32, r52_35, r52_36, r52_37n, r52_37, r52_40, r52_41, r52_42, r52_43, r52_43n, r52_45, r52_46, r52_49, r52_49n, r52_50, r52_53, r52_54, r52_55, r52_55n, r52_57, r52_57n, r52_59n, r52_59, r52_62, r52_63, r52_63n, r52_65, r52_71, r52_74, r52_75, r52_76, r52_76n, r52_77, r52_80, r52_81, r52_84, r52_84i, r52_85, r52_86, r52_87, r52_87n, r52_89, r52_95, r52_96, i32_10, reduceIte, gm_cmp1, gm_cmp3, gm_cmp4, gm_kd_sf, gm_ln_sf, gm_sf_1, gm_sf_2, gm_nw_1, gm_nw_2, gm_k_int, gm_k_ref, gm_k_null, gm_k_u, gm_k_long, and_true, true_and, true_or, or_true, or_false, false_or, and_self, or_self, if_true, if_false, List.map_nil, List.map_cons, List.sum_nil, List.sum_cons, Nat.zero_le, Option.toList_some, Option.toList_none, List.cons_append, List.nil_append, ne_eq, not_false_eq_true, not_true_eq_false, nI_1, nI_add, Value.category, Nat.reduceAdd, Nat.reduceMod, Nat.reduceLeDiff, Nat.reduceLT, Nat.reduceEqDiff, Nat.reducePow, Nat.le_refl, Nat.add_left_cancel_iff, Nat.add_eq_left, Nat.left_eq_add, Nat.add_zero, A0, A4, gx_ow] at fin ⊢
        refine c52_91 (by simp [Value.category]) (by simp [gm_en1]) hd (x_LocalClass (h := h) (ca := ca) (u := none)) (gx_kn ?_) gx_kx
        rw [← h3e]
        exact fin
      | some c =>
        rw [hu] at fin h3e
        simp only [r52_0, r52_1, r52_4, r52_5, r52_7, r52_10, r52_11, r52_14, r52_15, r52_16, r52_19, r52_20, r52_21, r52_22, r52_23, r52_26, r52_27, r52_28, r52_31, r52_31n, r52_32, r52_35, r52_36, r52_37n, r52_37, r52_40, r52_41, r52_42, r52_43, r52_43n, r52_45, r52_46, r52_49, r52_49n, r52_50, r52_53, r52_54, r52_55, r52_55n, r52_57, r52_57n, r52_59n, r52_59, r52_62, r52_63, r52_63n, r52_65, r52_71, r52_74, r52_75, r52_76, r52_76n, r52_77, r52_80, r52_81, r52_84, r52_84i, r52_85, r52_86, r52_87, r52_87n, r52_89, r52_95, r52_96, i32_10, reduceIte, gm_cmp1, gm_cmp3, gm_cmp4, gm_kd_sf, gm_ln_sf, gm_sf_1, gm_sf_2, gm_nw_1, gm_nw_2, gm_k_int, gm_k_ref, gm_k_null, gm_k_u, gm_k_long, and_true, true_and, true_or, or_true, or_false, false_or, and_self, or_self, if_true, if_false, List.map_nil, List.map_cons, List.sum_nil, List.sum_cons, Nat.zero_le, Option.toList_some, Option.toList_none, List.cons_append, List.nil_append, ne_eq, not_false_eq_true, not_true_eq_false, nI_1, nI_add, Value.category, Nat.reduceAdd, Nat.reduceMod, Nat.reduceLeDiff, Nat.reduceLT, Nat.reduceEqDiff, Nat.reducePow, Nat.le_refl, Nat.add_left_cancel_iff, Nat.add_eq_left, Nat.left_eq_add, Nat.add_zero, A0, A4, gx_ow] at fin ⊢
        refine c52_91 (by simp [Value.category]) (by simp [gm_en1]) hd (x_LocalClass (h := h) (ca := ca) (u := some c)) (gx_kn ?_) gx_kx
        rw [← h3e]
        exact fin
    by_cases hu : u < 0
    · have eu : gs_defsup u = none := by unfold gs_defsup; rw [if_pos hu]
      have mk' := mk (by unfold gs_defok; simp [p1, p2, p3, h4, p5, p6, nI_clamp hm, hC, hu]) (fun c e => by rw [eu] at e; cases e)
      rw [eu] at mk'
      simp only [r52_0, r52_1, r52_4, r52_5, r52_7, r52_10, r52_11, r52_14, r52_15, r52_16, r52_19, r52_20, r52_21, r52_22, r52_23, r52_26, r52_27, r52_28, r52_31, r52_31n, r52_32, r52_35, r52_36, r52_37n, r52_37, r52_40, r52_41, r52_42, r52_43, r52_43n, r52_45, r52_46, r52_49, r52_49n, r52_50, r52_53, r52_54, r52_55, r52_55n, r52_57, r52_57n, r52_59n, r52_59, r52_62, r52_63, r52_63n, r52_65, r52_71, r52_74, r52_75, r52_77, r52_80, r52_81, r52_84, r52_84i, r52_85, r52_86, r52_87, r52_87n, r52_89, r52_94, r52_94n, r52_95, r52_96, i32_10, reduceIte, gm_cmp1, gm_cmp3, gm_cmp4, gm_kd_sf, gm_ln_sf, gm_sf_1, gm_sf_2, gm_nw_1, gm_nw_2, gm_k_int, gm_k_ref, gm_k_null, gm_k_u, gm_k_long, and_true, true_and, true_or, or_true, or_false, false_or, and_self, or_self, if_true, if_false, List.map_nil, List.map_cons, List.sum_nil, List.sum_cons, Nat.zero_le, Option.toList_some, Option.toList_none, List.cons_append, List.nil_append, ne_eq, not_false_eq_true, not_true_eq_false, nI_1, nI_add, Value.category, Nat.reduceAdd, Nat.reduceMod, Nat.reduceLeDiff, Nat.reduceLT, Nat.reduceEqDiff, Nat.reducePow, Nat.le_refl, Nat.add_left_cancel_iff, Nat.add_eq_left, Nat.left_eq_add, Nat.add_zero, h1, h2, h3, h4, h5, h6, A0, A4, A1, A1l, hm6, f, hu, gx_ow] at mk' ⊢
      exact mk'
    · obtain ⟨q, hq, rfl⟩ := nI_of hu
      have eu : gs_defsup (nI q) = some q := by unfold gs_defsup; rw [if_neg hu, nI_clamp hq]
      have hqm : q < m := (nI_ltI hq hm).mp p6
      have hq6 : q < 6 := by omega
      cases hQ : gs_cls K q with
      | none =>
        have fq := (R.2.2.1.2 q hq6).1 hQ
        simp only [r52_0, r52_1, r52_4, r52_5, r52_7, r52_10, r52_11, r52_14, r52_15, r52_16, r52_19, r52_20, r52_21, r52_22, r52_23, r52_26, r52_27, r52_28, r52_31, r52_31n, r52_32, r52_35, r52_36, r52_37n, r52_37, r52_40, r52_41, r52_42, r52_43, r52_43n, r52_45, r52_46, r52_49, r52_49n, r52_50, r52_53, r52_54, r52_55, r52_55n, r52_57, r52_57n, r52_59n, r52_59, r52_62, r52_63, r52_63n, r52_65, r52_71, r52_75, r52_77, r52_80, r52_81, r52_84, r52_84i, r52_85, r52_86, r52_87, r52_87n, r52_89, r52_94, r52_94n, r52_95, r52_96, i32_10, reduceIte, gm_cmp1, gm_cmp3, gm_cmp4, gm_kd_sf, gm_ln_sf, gm_sf_1, gm_sf_2, gm_nw_1, gm_nw_2, gm_k_int, gm_k_ref, gm_k_null, gm_k_u, gm_k_long, and_true, true_and, true_or, or_true, or_false, false_or, and_self, or_self, if_true, if_false, List.map_nil, List.map_cons, List.sum_nil, List.sum_cons, Nat.zero_le, Option.toList_some, Option.toList_none, List.cons_append, List.nil_append, ne_eq, not_false_eq_true, not_true_eq_false, nI_1, nI_add, Value.category, Nat.reduceAdd, Nat.reduceMod, Nat.reduceLeDiff, Nat.reduceLT, Nat.reduceEqDiff, Nat.reducePow, Nat.le_refl, Nat.add_left_cancel_iff, Nat.add_eq_left, Nat.left_eq_add, Nat.add_zero, h1, h2, h3, h4, h5, h6, A0, A4, A1, A1l, hm6, f, hu, hq6, fq]
        exact n74 (by unfold gs_defok; simp [nI_clamp hq, hQ, hu]) _
      | some Q =>
        obtain ⟨-, fq, -, kq, -, fk, -⟩ := R.2.2.1.at hQ
        simp only [r52_0, r52_1, r52_4, r52_5, r52_7, r52_10, r52_11, r52_14, r52_15, r52_16, r52_19, r52_20, r52_21, r52_22, r52_23, r52_26, r52_27, r52_28, r52_31, r52_31n, r52_32, r52_35, r52_36, r52_37n, r52_37, r52_40, r52_41, r52_42, r52_43, r52_43n, r52_45, r52_46, r52_49, r52_49n, r52_50, r52_53, r52_54, r52_55, r52_55n, r52_57, r52_57n, r52_59n, r52_59, r52_62, r52_63, r52_63n, r52_65, r52_71, r52_75, r52_77, r52_80, r52_81, r52_84, r52_84i, r52_85, r52_86, r52_87, r52_87n, r52_89, r52_94, r52_94n, r52_95, r52_96, i32_10, reduceIte, gm_cmp1, gm_cmp3, gm_cmp4, gm_kd_sf, gm_ln_sf, gm_sf_1, gm_sf_2, gm_nw_1, gm_nw_2, gm_k_int, gm_k_ref, gm_k_null, gm_k_u, gm_k_long, and_true, true_and, true_or, or_true, or_false, false_or, and_self, or_self, if_true, if_false, List.map_nil, List.map_cons, List.sum_nil, List.sum_cons, Nat.zero_le, Option.toList_some, Option.toList_none, List.cons_append, List.nil_append, ne_eq, not_false_eq_true, not_true_eq_false, nI_1, nI_add, Value.category, Nat.reduceAdd, Nat.reduceMod, Nat.reduceLeDiff, Nat.reduceLT, Nat.reduceEqDiff, Nat.reducePow, Nat.le_refl, Nat.add_left_cancel_iff, Nat.add_eq_left, Nat.left_eq_add, Nat.add_zero, h1, h2, h3, h4, h5, h6, A0, A4, A1, A1l, hm6, f, hu, hq6, fq, kq, fk]
        refine c52_68 (by simp) hd (x_mayExtend k (gs_kind Q)) (gx_kn ?_) gx_kx
        rw [gs_ext_if]
        by_cases he : gs_ext k (gs_kind Q) = true
        · have mk' := mk (by unfold gs_defok; simp [p1, p2, p3, h4, p5, p6, nI_clamp hm, hC, nI_clamp hq, hQ, he]) (fun c e => by rw [eu] at e; cases e; exact ⟨hqm, by rw [hQ]; rfl⟩)
          rw [eu] at mk'
          simp only [r52_0, r52_1, r52_4, r52_5, r52_7, r52_10, r52_11, r52_14, r52_15, r52_16, r52_19, r52_20, r52_21, r52_22, r52_23, r52_26, r52_27, r52_28, r52_31, r52_31n, r52_32, r52_35, r52_36, r52_37n, r52_37, r52_40, r52_41, r52_42, r52_43, r52_43n, r52_45, r52_46, r52_49, r52_49n, r52_50, r52_53, r52_54, r52_55, r52_55n, r52_57, r52_57n, r52_59n, r52_59, r52_62, r52_63, r52_63n, r52_65, r52_71, r52_75, r52_77, r52_80, r52_81, r52_84, r52_84i, r52_85, r52_86, r52_87, r52_87n, r52_89, r52_94, r52_94n, r52_95, r52_96, i32_10, reduceIte, gm_cmp1, gm_cmp3, gm_cmp4, gm_kd_sf, gm_ln_sf, gm_sf_1, gm_sf_2, gm_nw_1, gm_nw_2, gm_k_int, gm_k_ref, gm_k_null, gm_k_u, gm_k_long, and_true, true_and, true_or, or_true, or_false, false_or, and_self, or_self, if_true, if_false, List.map_nil, List.map_cons, List.sum_nil, List.sum_cons, Nat.zero_le, Option.toList_some, Option.toList_none, List.cons_append, List.nil_append, ne_eq, not_false_eq_true, not_true_eq_false, nI_1, nI_add, Value.category, Nat.reduceAdd, Nat.reduceMod, Nat.reduceLeDiff, Nat.reduceLT, Nat.reduceEqDiff, Nat.reducePow, Nat.le_refl, Nat.add_left_cancel_iff, Nat.add_eq_left, Nat.left_eq_add, Nat.add_zero, he, gx_ow] at mk' ⊢
          exact mk'
        · simp only [r52_0, r52_1, r52_4, r52_5, r52_7, r52_10, r52_11, r52_14, r52_15, r52_16, r52_19, r52_20, r52_21, r52_22, r52_23, r52_26, r52_27, r52_28, r52_31, r52_31n, r52_32, r52_35, r52_36, r52_37n, r52_37, r52_40, r52_41, r52_42, r52_43, r52_43n, r52_45, r52_46, r52_49, r52_49n, r52_50, r52_53, r52_54, r52_55, r52_55n, r52_57, r52_57n, r52_59n, r52_59, r52_62, r52_63, r52_63n, r52_65, r52_71, r52_75, r52_77, r52_80, r52_81, r52_84, r52_84i, r52_85, r52_86, r52_87, r52_87n, r52_89, r52_94, r52_94n, r52_95, r52_96, i32_10, reduceIte, gm_cmp1, gm_cmp3, gm_cmp4, gm_kd_sf, gm_ln_sf, gm_sf_1, gm_sf_2, gm_nw_1, gm_nw_2, gm_k_int, gm_k_ref, gm_k_null, gm_k_u, gm_k_long, and_true, true_and, true_or, or_true, or_false, false_or, and_self, or_self, if_true, if_false, List.map_nil, List.map_cons, List.sum_nil, List.sum_cons, Nat.zero_le, Option.toList_some, Option.toList_none, List.cons_append, List.nil_append, ne_eq, not_false_eq_true, not_true_eq_false, nI_1, nI_add, Value.category, Nat.reduceAdd, Nat.reduceMod, Nat.reduceLeDiff, Nat.reduceLT, Nat.reduceEqDiff, Nat.reducePow, Nat.le_refl, Nat.add_left_cancel_iff, Nat.add_eq_left, Nat.left_eq_add, Nat.add_zero, he]
          exact n74 (by unfold gs_defok; simp [nI_clamp hq, hQ, hu, he]) _
end Z7
