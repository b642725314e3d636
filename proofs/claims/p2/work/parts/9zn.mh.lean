/-! THE REFERENCE, 16: types; names of arrays. -/
section MH
variable {E : Nat → Value} {d m : Nat} {h : gm_H} {t : gr_t} {K : gs_K} {s : gs_S}
def gr_ty (v : Int32) : Int32 := match gs_types.findIdx? (· == v) with
  | none => -1
  | some k => nI k
theorem m_typeOf {v : Int32} : gm_Ca E d 33 [.ref m, .int v] (gr_H h m t) (gx_v (some (.int (gr_ty v))) (gr_H h m t)) := by
  obtain ⟨Q, hQ⟩ : ∃ Q : gm_R → gm_H → Prop, Q = gx_v (some (.int (gr_ty v))) (gr_H h m t) := ⟨_, rfl⟩
  rw [← hQ]
  have fin : ∀ x, gr_ty v = x → Q (.inl (some (.int x))) (gr_H h m t) := by
    rintro x rfl; rw [hQ]; exact ⟨rfl, rfl⟩
  show gm_W E d 33 0 [.ref m, .int v] [] (gr_H h m t) Q
  by_cases n66 : v = 66
  · have g := fin 0 (by rw [n66]; decide)
    subst n66
    simp only [r33_0, r33_1, r33_3, r33_6, r33_7, r33_10, r33_11, r33_13, r33_16, r33_17, r33_20, r33_21, r33_23, r33_26, r33_27, r33_30, r33_31, r33_33, r33_36, r33_37, r33_40, r33_41, r33_43, r33_46, r33_47, r33_50, r33_51, r33_53, r33_56, r33_57, r33_60, r33_61, r33_63, r33_66, r33_68, r33_71, r33_72, r33_74, r33_77, r33_79, r33_82, r33_83, i32_10, reduceIte, gm_cmp1, gm_cmp3, gm_cmp4, gm_kd_sf, gm_ln_sf, gm_sf_1, gm_sf_2, gm_nw_1, gm_nw_2, gm_k_int, gm_k_ref, gm_k_null, gm_k_u, gm_k_long, and_true, true_and, true_or, or_true, or_false, false_or, and_self, or_self, if_true, if_false, List.map_nil, List.map_cons, List.sum_nil, List.sum_cons, Nat.zero_le, Option.toList_some, Option.toList_none, List.cons_append, List.nil_append, ne_eq, not_false_eq_true, not_true_eq_false, nI_1, nI_add, Value.category, Nat.reduceAdd, Nat.reduceMod, Nat.reduceLeDiff, Nat.reduceLT, Nat.reduceEqDiff, Nat.reducePow, Nat.le_refl, Nat.add_left_cancel_iff, Nat.add_eq_left, Nat.left_eq_add, Nat.add_zero]
    exact g
  by_cases n67 : v = 67
  · have g := fin 1 (by rw [n67]; decide)
    subst n67
    simp only [r33_0, r33_1, r33_3, r33_6, r33_7, r33_10, r33_11, r33_13, r33_16, r33_17, r33_20, r33_21, r33_23, r33_26, r33_27, r33_30, r33_31, r33_33, r33_36, r33_37, r33_40, r33_41, r33_43, r33_46, r33_47, r33_50, r33_51, r33_53, r33_56, r33_57, r33_60, r33_61, r33_63, r33_66, r33_68, r33_71, r33_72, r33_74, r33_77, r33_79, r33_82, r33_83, i32_10, reduceIte, gm_cmp1, gm_cmp3, gm_cmp4, gm_kd_sf, gm_ln_sf, gm_sf_1, gm_sf_2, gm_nw_1, gm_nw_2, gm_k_int, gm_k_ref, gm_k_null, gm_k_u, gm_k_long, and_true, true_and, true_or, or_true, or_false, false_or, and_self, or_self, if_true, if_false, List.map_nil, List.map_cons, List.sum_nil, List.sum_cons, Nat.zero_le, Option.toList_some, Option.toList_none, List.cons_append, List.nil_append, ne_eq, not_false_eq_true, not_true_eq_false, nI_1, nI_add, Value.category, Nat.reduceAdd, Nat.reduceMod, Nat.reduceLeDiff, Nat.reduceLT, Nat.reduceEqDiff, Nat.reducePow, Nat.le_refl, Nat.add_left_cancel_iff, Nat.add_eq_left, Nat.left_eq_add, Nat.add_zero, n66]
    exact g
  by_cases n73 : v = 73
  · have g := fin 2 (by rw [n73]; decide)
    subst n73
    simp only [r33_0, r33_1, r33_3, r33_6, r33_7, r33_10, r33_11, r33_13, r33_16, r33_17, r33_20, r33_21, r33_23, r33_26, r33_27, r33_30, r33_31, r33_33, r33_36, r33_37, r33_40, r33_41, r33_43, r33_46, r33_47, r33_50, r33_51, r33_53, r33_56, r33_57, r33_60, r33_61, r33_63, r33_66, r33_68, r33_71, r33_72, r33_74, r33_77, r33_79, r33_82, r33_83, i32_10, reduceIte, gm_cmp1, gm_cmp3, gm_cmp4, gm_kd_sf, gm_ln_sf, gm_sf_1, gm_sf_2, gm_nw_1, gm_nw_2, gm_k_int, gm_k_ref, gm_k_null, gm_k_u, gm_k_long, and_true, true_and, true_or, or_true, or_false, false_or, and_self, or_self, if_true, if_false, List.map_nil, List.map_cons, List.sum_nil, List.sum_cons, Nat.zero_le, Option.toList_some, Option.toList_none, List.cons_append, List.nil_append, ne_eq, not_false_eq_true, not_true_eq_false, nI_1, nI_add, Value.category, Nat.reduceAdd, Nat.reduceMod, Nat.reduceLeDiff, Nat.reduceLT, Nat.reduceEqDiff, Nat.reducePow, Nat.le_refl, Nat.add_left_cancel_iff, Nat.add_eq_left, Nat.left_eq_add, Nat.add_zero, n66, n67]
    exact g
  by_cases n74 : v = 74
  · have g := fin 3 (by rw [n74]; decide)
    subst n74
    simp only [r33_0, r33_1, r33_3, r33_6, r33_7, r33_10, r33_11, r33_13, r33_16, r33_17, r33_20, r33_21, r33_23, r33_26, r33_27, r33_30, r33_31, r33_33, r33_36, r33_37, r33_40, r33_41, r33_43, r33_46, r33_47, r33_50, r33_51, r33_53, r33_56, r33_57, r33_60, r33_61, r33_63, r33_66, r33_68, r33_71, r33_72, r33_74, r33_77, r33_79, r33_82, r33_83, i32_10, reduceIte, gm_cmp1, gm_cmp3, gm_cmp4, gm_kd_sf, gm_ln_sf, gm_sf_1, gm_sf_2, gm_nw_1, gm_nw_2, gm_k_int, gm_k_ref, gm_k_null, gm_k_u, gm_k_long, and_true, true_and, true_or, or_true, or_false, false_or, and_self, or_self, if_true, if_false, List.map_nil, List.map_cons, List.sum_nil, List.sum_cons, Nat.zero_le, Option.toList_some, Option.toList_none, List.cons_append, List.nil_append, ne_eq, not_false_eq_true, not_true_eq_false, nI_1, nI_add, Value.category, Nat.reduceAdd, Nat.reduceMod, Nat.reduceLeDiff, Nat.reduceLT, Nat.reduceEqDiff, Nat.reducePow, Nat.le_refl, Nat.add_left_cancel_iff, Nat.add_eq_left, Nat.left_eq_add, Nat.add_zero, n66, n67, n73]
    exact g
  by_cases n83 : v = 83
  · have g := fin 4 (by rw [n83]; decide)
    subst n83
    simp only [r33_0, r33_1, r33_3, r33_6, r33_7, r33_10, r33_11, r33_13, r33_16, r33_17, r33_20, r33_21, r33_23, r33_26, r33_27, r33_30, r33_31, r33_33, r33_36, r33_37, r33_40, r33_41, r33_43, r33_46, r33_47, r33_50, r33_51, r33_53, r33_56, r33_57, r33_60, r33_61, r33_63, r33_66, r33_68, r33_71, r33_72, r33_74, r33_77, r33_79, r33_82, r33_83, i32_10, reduceIte, gm_cmp1, gm_cmp3, gm_cmp4, gm_kd_sf, gm_ln_sf, gm_sf_1, gm_sf_2, gm_nw_1, gm_nw_2, gm_k_int, gm_k_ref, gm_k_null, gm_k_u, gm_k_long, and_true, true_and, true_or, or_true, or_false, false_or, and_self, or_self, if_true, if_false, List.map_nil, List.map_cons, List.sum_nil, List.sum_cons, Nat.zero_le, Option.toList_some, Option.toList_none, List.cons_append, List.nil_append, ne_eq, not_false_eq_true, not_true_eq_false, nI_1, nI_add, Value.category, Nat.reduceAdd, Nat.reduceMod, Nat.reduceLeDiff, Nat.reduceLT, Nat.reduceEqDiff, Nat.reducePow, Nat.le_refl, Nat.add_left_cancel_iff, Nat.add_eq_left, Nat.left_eq_add, Nat.add_zero, n66, n67, n73, n74]
    exact g
  by_cases n90 : v = 90
  · have g := fin 5 (by rw [n90]; decide)
    subst n90
    simp only [r33_0, r33_1, r33_3, r33_6, r33_7, r33_10, r33_11, r33_13, r33_16, r33_17, r33_20, r33_21, r33_23, r33_26, r33_27, r33_30, r33_31, r33_33, r33_36, r33_37, r33_40, r33_41, r33_43, r33_46, r33_47, r33_50, r33_51, r33_53, r33_56, r33_57, r33_60, r33_61, r33_63, r33_66, r33_68, r33_71, r33_72, r33_74, r33_77, r33_79, r33_82, r33_83, i32_10, reduceIte, gm_cmp1, gm_cmp3, gm_cmp4, gm_kd_sf, gm_ln_sf, gm_sf_1, gm_sf_2, gm_nw_1, gm_nw_2, gm_k_int, gm_k_ref, gm_k_null, gm_k_u, gm_k_long, and_true, true_and, true_or, or_true, or_false, false_or, and_self, or_self, if_true, if_false, List.map_nil, List.map_cons, List.sum_nil, List.sum_cons, Nat.zero_le, Option.toList_some, Option.toList_none, List.cons_append, List.nil_append, ne_eq, not_false_eq_true, not_true_eq_false, nI_1, nI_add, Value.category, Nat.reduceAdd, Nat.reduceMod, Nat.reduceLeDiff, Nat.reduceLT, Nat.reduceEqDiff, Nat.reducePow, Nat.le_refl, Nat.add_left_cancel_iff, Nat.add_eq_left, Nat.left_eq_add, Nat.add_zero, n66, n67, n73, n74, n83]
    exact g
  by_cases n91 : v = 91
  · have g := fin 6 (by rw [n91]; decide)
    subst n91
    simp only [r33_0, r33_1, r33_3, r33_6, r33_7, r33_10, r33_11, r33_13, r33_16, r33_17, r33_20, r33_21, r33_23, r33_26, r33_27, r33_30, r33_31, r33_33, r33_36, r33_37, r33_40, r33_41, r33_43, r33_46, r33_47, r33_50, r33_51, r33_53, r33_56, r33_57, r33_60, r33_61, r33_63, r33_66, r33_68, r33_71, r33_72, r33_74, r33_77, r33_79, r33_82, r33_83, i32_10, reduceIte, gm_cmp1, gm_cmp3, gm_cmp4, gm_kd_sf, gm_ln_sf, gm_sf_1, gm_sf_2, gm_nw_1, gm_nw_2, gm_k_int, gm_k_ref, gm_k_null, gm_k_u, gm_k_long, and_true, true_and, true_or, or_true, or_false, false_or, and_self, or_self, if_true, if_false, List.map_nil, List.map_cons, List.sum_nil, List.sum_cons, Nat.zero_le, Option.toList_some, Option.toList_none, List.cons_append, List.nil_append, ne_eq, not_false_eq_true, not_true_eq_false, nI_1, nI_add, Value.category, Nat.reduceAdd, Nat.reduceMod, Nat.reduceLeDiff, Nat.reduceLT, Nat.reduceEqDiff, Nat.reducePow, Nat.le_refl, Nat.add_left_cancel_iff, Nat.add_eq_left, Nat.left_eq_add, Nat.add_zero, n66, n67, n73, n74, n83, n90]
    exact g
  by_cases n76 : v = 76
  · have g := fin 7 (by rw [n76]; decide)
    subst n76
    simp only [r33_0, r33_1, r33_3, r33_6, r33_7, r33_10, r33_11, r33_13, r33_16, r33_17, r33_20, r33_21, r33_23, r33_26, r33_27, r33_30, r33_31, r33_33, r33_36, r33_37, r33_40, r33_41, r33_43, r33_46, r33_47, r33_50, r33_51, r33_53, r33_56, r33_57, r33_60, r33_61, r33_63, r33_66, r33_68, r33_71, r33_72, r33_74, r33_77, r33_79, r33_82, r33_83, i32_10, reduceIte, gm_cmp1, gm_cmp3, gm_cmp4, gm_kd_sf, gm_ln_sf, gm_sf_1, gm_sf_2, gm_nw_1, gm_nw_2, gm_k_int, gm_k_ref, gm_k_null, gm_k_u, gm_k_long, and_true, true_and, true_or, or_true, or_false, false_or, and_self, or_self, if_true, if_false, List.map_nil, List.map_cons, List.sum_nil, List.sum_cons, Nat.zero_le, Option.toList_some, Option.toList_none, List.cons_append, List.nil_append, ne_eq, not_false_eq_true, not_true_eq_false, nI_1, nI_add, Value.category, Nat.reduceAdd, Nat.reduceMod, Nat.reduceLeDiff, Nat.reduceLT, Nat.reduceEqDiff, Nat.reducePow, Nat.le_refl, Nat.add_left_cancel_iff, Nat.add_eq_left, Nat.left_eq_add, Nat.add_zero, n66, n67, n73, n74, n83, n90, n91]
    exact g
  have g := fin (-1) (by
    have e : gs_types.findIdx? (· == v) = none := by
      unfold gs_types
      simp [List.findIdx?_cons, Ne.symm n66, fun z => n66 (Eq.symm z), Ne.symm n67, fun z => n67 (Eq.symm z), Ne.symm n73, fun z => n73 (Eq.symm z), Ne.symm n74, fun z => n74 (Eq.symm z), Ne.symm n83, fun z => n83 (Eq.symm z), Ne.symm n90, fun z => n90 (Eq.symm z), Ne.symm n91, fun z => n91 (Eq.symm z), Ne.symm n76, fun z => n76 (Eq.symm z)]
    unfold gr_ty
    rw [e])
  simp only [r33_0, r33_1, r33_3, r33_6, r33_7, r33_10, r33_11, r33_13, r33_16, r33_17, r33_20, r33_21, r33_23, r33_26, r33_27, r33_30, r33_31, r33_33, r33_36, r33_37, r33_40, r33_41, r33_43, r33_46, r33_47, r33_50, r33_51, r33_53, r33_56, r33_57, r33_60, r33_61, r33_63, r33_66, r33_68, r33_71, r33_72, r33_74, r33_77, r33_79, r33_82, r33_83, i32_10, reduceIte, gm_cmp1, gm_cmp3, gm_cmp4, gm_kd_sf, gm_ln_sf, gm_sf_1, gm_sf_2, gm_nw_1, gm_nw_2, gm_k_int, gm_k_ref, gm_k_null, gm_k_u, gm_k_long, and_true, true_and, true_or, or_true, or_false, false_or, and_self, or_self, if_true, if_false, List.map_nil, List.map_cons, List.sum_nil, List.sum_cons, Nat.zero_le, Option.toList_some, Option.toList_none, List.cons_append, List.nil_append, ne_eq, not_false_eq_true, not_true_eq_false, nI_1, nI_add, Value.category, Nat.reduceAdd, Nat.reduceMod, Nat.reduceLeDiff, Nat.reduceLT, Nat.reduceEqDiff, Nat.reducePow, Nat.le_refl, Nat.add_left_cancel_iff, Nat.add_eq_left, Nat.left_eq_add, Nat.add_zero, n66, n67, n73, n74, n83, n90, n91, n76]
  exact g
set_option maxRecDepth 100000 in
theorem gr_sb8 : ∀ b : Fin 256, (b.val < 128 → (UInt8.ofNat b.val).toInt8.toInt32 = nI b.val) ∧ (128 ≤ b.val → (UInt8.ofNat b.val).toInt8.toInt32 < 0) := by decide +kernel
theorem gr_sbu {i v : Nat} (hv : v < 128) : gs_sb K i = nI v ↔ gs_ubn K i = v := by
  have h := gr_sb8 ⟨gs_ubn K i, gs_ubn_lt⟩
  have e : UInt8.ofNat (gs_ubn K i) = gs_by K i := UInt8.ofNat_toNat
  have l := gs_ubn_lt (K := K) (i := i)
  dsimp only at h
  rw [e] at h
  have h : (gs_ubn K i < 128 → gs_sb K i = nI (gs_ubn K i)) ∧ (128 ≤ gs_ubn K i → gs_sb K i < 0) := h
  rcases Nat.lt_or_ge (gs_ubn K i) 128 with z | z
  · rw [h.1 z]
    exact ⟨fun q => nI_inj (by omega) (by omega) q, fun q => by rw [q]⟩
  · have y := h.2 z
    exact ⟨fun q => by rw [q] at y; exact absurd y (nI_pos (by omega)), fun q => by omega⟩
end MH
