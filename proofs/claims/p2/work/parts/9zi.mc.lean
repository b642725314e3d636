/-! THE REFERENCE, 11: primitive values; chains of classes. -/
section MC
variable {E : Nat → Value} {d m : Nat} {h : gm_H} {t : gr_t} {K : gs_K} {s : gs_S}
def gr_ql (h : gm_H) (m : Nat) (t : gr_t) (e : Except Int32 (Int64 × gs_S)) : gm_R → gm_H → Prop := fun r h' => match e with
  | .ok q => r = .inl (some (.long q.1)) ∧ h' = gr_H h m (gr_ui t 0 6 (nI (gs_pl q.2)))
  | .error f => ∃ (w : Int64) (t' : gr_t), r = .inl (some (.long w)) ∧ h' = gr_H h m t' ∧ gr_er t t' f
theorem gs_nxt_y {k : Nat} (hk : gs_pl s + k ≤ gs_n K) : gs_nxt K k s = .ok (gs_num K (gs_pl s) k, gs_p (gs_pl s + k) s) := by unfold gs_nxt; rw [if_neg (by omega)]
theorem gs_nxt_n {k : Nat} (hp : gs_pl s ≤ gs_n K) (hk : ¬ gs_pl s + k ≤ gs_n K) : gs_nxt K k s = .error (-3) := by unfold gs_nxt; rw [if_pos (by omega)]
theorem m_primitive {ty : Int32} (hty : ty = 0 ∨ ty = 1 ∨ ty = 2 ∨ ty = 3 ∨ ty = 4 ∨ ty = 5) (hd : 3 ≤ d) (B : gr_B t K) (hp : t.1 0 6 = nI (gs_pl s)) (hpn : gs_pl s ≤ gs_n K) (h8 : t.1 0 8 = 0) : gm_Ca E d 40 [.ref m, .int ty] (gr_H h m t) (gr_ql h m t (gs_prim K ty s)) := by
  obtain ⟨Q, hQ⟩ : ∃ Q : gm_R → gm_H → Prop, Q = gr_ql h m t (gs_prim K ty s) := ⟨_, rfl⟩
  rw [← hQ]
  have d01 : ¬ (1 : Int32) = 0 := by decide
  have d02 : ¬ (2 : Int32) = 0 := by decide
  have d03 : ¬ (3 : Int32) = 0 := by decide
  have d04 : ¬ (4 : Int32) = 0 := by decide
  have d05 : ¬ (5 : Int32) = 0 := by decide
  have d12 : ¬ (2 : Int32) = 1 := by decide
  have d13 : ¬ (3 : Int32) = 1 := by decide
  have d14 : ¬ (4 : Int32) = 1 := by decide
  have d15 : ¬ (5 : Int32) = 1 := by decide
  have d23 : ¬ (3 : Int32) = 2 := by decide
  have d24 : ¬ (4 : Int32) = 2 := by decide
  have d25 : ¬ (5 : Int32) = 2 := by decide
  have d34 : ¬ (4 : Int32) = 3 := by decide
  have d35 : ¬ (5 : Int32) = 3 := by decide
  have d45 : ¬ (5 : Int32) = 4 := by decide
  show gm_W E d 40 0 [.ref m, .int ty] [] (gr_H h m t) Q
  rcases hty with rfl | rfl | rfl | rfl | rfl | rfl
  · simp only [r40_0, r40_1, r40_4, r40_4n, r40_5, r40_9, r40_10, r40_11, r40_12, r40_13, r40_14, r40_15, r40_18, r40_18n, r40_19, r40_23, r40_24, r40_25, r40_26, r40_29, r40_29n, r40_30, r40_34, r40_35, r40_36, r40_37, r40_38, r40_39, r40_42, r40_42n, r40_43, r40_48, r40_49, r40_50, r40_51, r40_54, r40_54n, r40_55, r40_59, r40_60, r40_61, r40_62, r40_63, r40_63n, r40_64, r40_68, r40_69, r40_70, r40_73, r40_74, r40_77, r40_78, i32_10, reduceIte, gm_cmp1, gm_cmp3, gm_cmp4, gm_kd_sf, gm_ln_sf, gm_sf_1, gm_sf_2, gm_nw_1, gm_nw_2, gm_k_int, gm_k_ref, gm_k_null, gm_k_u, gm_k_long, and_true, true_and, true_or, or_true, or_false, false_or, and_self, or_self, if_true, if_false, List.map_nil, List.map_cons, List.sum_nil, List.sum_cons, Nat.zero_le, Option.toList_some, Option.toList_none, List.cons_append, List.nil_append, ne_eq, not_false_eq_true, not_true_eq_false, nI_1, nI_add, Value.category, Nat.reduceAdd, Nat.reduceMod, Nat.reduceLeDiff, Nat.reduceLT, Nat.reduceEqDiff, Nat.reducePow, Nat.le_refl, Nat.add_left_cancel_iff, Nat.add_eq_left, Nat.left_eq_add, Nat.add_zero, d01, d02, d03, d04, d05, d12, d13, d14, d15, d23, d24, d25, d34, d35, d45]
    refine c40_6 (by simp) g_k0 (by omega) (m_number (k := 1) (by omega) B hp hpn h8 (by decide)) (fun w h' q => ?_) (fun x h' q => ?_)
    · by_cases hl : gs_pl s + 1 ≤ gs_n K
      · obtain ⟨q1, q2⟩ := q.1 hl
        cases q1
        subst q2
        obtain ⟨v, hv⟩ : ∃ v, v = gs_num K (gs_pl s) 1 := ⟨_, rfl⟩
        have ep : gs_prim K 0 s = .ok (v.toInt32.toInt8.toInt32.toInt64, gs_p (gs_pl s + 1) s) := by
          unfold gs_prim gs_b
          rw [show (if ((0 : Int32) = 0 ∨ (0 : Int32) = 5) then 1 else if ((0 : Int32) = 1 ∨ (0 : Int32) = 4) then 2 else if (0 : Int32) = 2 then 4 else 8) = 1 by decide, gs_nxt_y hl, ← hv]
          rfl
        rw [← hv]
        have fin : Q (.inl (some (.long v.toInt32.toInt8.toInt32.toInt64))) (gr_H h m (gr_ui t 0 6 (nI (gs_pl s + 1)))) := by
          rw [hQ, ep]; exact ⟨rfl, rfl⟩
        simp only [r40_0, r40_1, r40_4, r40_4n, r40_5, r40_9, r40_10, r40_11, r40_12, r40_13, r40_14, r40_15, r40_18, r40_18n, r40_19, r40_23, r40_24, r40_25, r40_26, r40_29, r40_29n, r40_30, r40_34, r40_35, r40_36, r40_37, r40_38, r40_39, r40_42, r40_42n, r40_43, r40_48, r40_49, r40_50, r40_51, r40_54, r40_54n, r40_55, r40_59, r40_60, r40_61, r40_62, r40_63, r40_63n, r40_64, r40_68, r40_69, r40_70, r40_73, r40_74, r40_77, r40_78, i32_10, reduceIte, gm_cmp1, gm_cmp3, gm_cmp4, gm_kd_sf, gm_ln_sf, gm_sf_1, gm_sf_2, gm_nw_1, gm_nw_2, gm_k_int, gm_k_ref, gm_k_null, gm_k_u, gm_k_long, and_true, true_and, true_or, or_true, or_false, false_or, and_self, or_self, if_true, if_false, List.map_nil, List.map_cons, List.sum_nil, List.sum_cons, Nat.zero_le, Option.toList_some, Option.toList_none, List.cons_append, List.nil_append, ne_eq, not_false_eq_true, not_true_eq_false, nI_1, nI_add, Value.category, Nat.reduceAdd, Nat.reduceMod, Nat.reduceLeDiff, Nat.reduceLT, Nat.reduceEqDiff, Nat.reducePow, Nat.le_refl, Nat.add_left_cancel_iff, Nat.add_eq_left, Nat.left_eq_add, Nat.add_zero]
        exact fin
      · obtain ⟨v, t', q1, q2, q3⟩ := q.2 (by omega)
        cases q1
        subst q2
        have ep : gs_prim K 0 s = .error (-3) := by
          unfold gs_prim gs_b
          rw [show (if ((0 : Int32) = 0 ∨ (0 : Int32) = 5) then 1 else if ((0 : Int32) = 1 ∨ (0 : Int32) = 4) then 2 else if (0 : Int32) = 2 then 4 else 8) = 1 by decide, gs_nxt_n hpn hl]
        have fin : ∀ w, Q (.inl (some (.long w))) (gr_H h m t') := fun w => by
          rw [hQ, ep]; exact ⟨w, t', rfl, rfl, q3⟩
        simp only [r40_0, r40_1, r40_4, r40_4n, r40_5, r40_9, r40_10, r40_11, r40_12, r40_13, r40_14, r40_15, r40_18, r40_18n, r40_19, r40_23, r40_24, r40_25, r40_26, r40_29, r40_29n, r40_30, r40_34, r40_35, r40_36, r40_37, r40_38, r40_39, r40_42, r40_42n, r40_43, r40_48, r40_49, r40_50, r40_51, r40_54, r40_54n, r40_55, r40_59, r40_60, r40_61, r40_62, r40_63, r40_63n, r40_64, r40_68, r40_69, r40_70, r40_73, r40_74, r40_77, r40_78, i32_10, reduceIte, gm_cmp1, gm_cmp3, gm_cmp4, gm_kd_sf, gm_ln_sf, gm_sf_1, gm_sf_2, gm_nw_1, gm_nw_2, gm_k_int, gm_k_ref, gm_k_null, gm_k_u, gm_k_long, and_true, true_and, true_or, or_true, or_false, false_or, and_self, or_self, if_true, if_false, List.map_nil, List.map_cons, List.sum_nil, List.sum_cons, Nat.zero_le, Option.toList_some, Option.toList_none, List.cons_append, List.nil_append, ne_eq, not_false_eq_true, not_true_eq_false, nI_1, nI_add, Value.category, Nat.reduceAdd, Nat.reduceMod, Nat.reduceLeDiff, Nat.reduceLT, Nat.reduceEqDiff, Nat.reducePow, Nat.le_refl, Nat.add_left_cancel_iff, Nat.add_eq_left, Nat.left_eq_add, Nat.add_zero]
        exact fin _
    · by_cases hl : gs_pl s + 1 ≤ gs_n K
      · cases (q.1 hl).1
      · obtain ⟨v, t', q1, -, -⟩ := q.2 (by omega)
        cases q1
  · simp only [r40_0, r40_1, r40_4, r40_4n, r40_5, r40_9, r40_10, r40_11, r40_12, r40_13, r40_14, r40_15, r40_18, r40_18n, r40_19, r40_23, r40_24, r40_25, r40_26, r40_29, r40_29n, r40_30, r40_34, r40_35, r40_36, r40_37, r40_38, r40_39, r40_42, r40_42n, r40_43, r40_48, r40_49, r40_50, r40_51, r40_54, r40_54n, r40_55, r40_59, r40_60, r40_61, r40_62, r40_63, r40_63n, r40_64, r40_68, r40_69, r40_70, r40_73, r40_74, r40_77, r40_78, i32_10, reduceIte, gm_cmp1, gm_cmp3, gm_cmp4, gm_kd_sf, gm_ln_sf, gm_sf_1, gm_sf_2, gm_nw_1, gm_nw_2, gm_k_int, gm_k_ref, gm_k_null, gm_k_u, gm_k_long, and_true, true_and, true_or, or_true, or_false, false_or, and_self, or_self, if_true, if_false, List.map_nil, List.map_cons, List.sum_nil, List.sum_cons, Nat.zero_le, Option.toList_some, Option.toList_none, List.cons_append, List.nil_append, ne_eq, not_false_eq_true, not_true_eq_false, nI_1, nI_add, Value.category, Nat.reduceAdd, Nat.reduceMod, Nat.reduceLeDiff, Nat.reduceLT, Nat.reduceEqDiff, Nat.reducePow, Nat.le_refl, Nat.add_left_cancel_iff, Nat.add_eq_left, Nat.left_eq_add, Nat.add_zero, d01, d02, d03, d04, d05, d12, d13, d14, d15, d23, d24, d25, d34, d35, d45]
    refine c40_20 (by simp) g_k0 (by omega) (m_number (k := 2) (by omega) B hp hpn h8 (by decide)) (fun w h' q => ?_) (fun x h' q => ?_)
    · by_cases hl : gs_pl s + 2 ≤ gs_n K
      · obtain ⟨q1, q2⟩ := q.1 hl
        cases q1
        subst q2
        obtain ⟨v, hv⟩ : ∃ v, v = gs_num K (gs_pl s) 2 := ⟨_, rfl⟩
        have ep : gs_prim K 1 s = .ok (v, gs_p (gs_pl s + 2) s) := by
          unfold gs_prim gs_b
          rw [show (if ((1 : Int32) = 0 ∨ (1 : Int32) = 5) then 1 else if ((1 : Int32) = 1 ∨ (1 : Int32) = 4) then 2 else if (1 : Int32) = 2 then 4 else 8) = 2 by decide, gs_nxt_y hl, ← hv]
          rfl
        rw [← hv]
        have fin : Q (.inl (some (.long v))) (gr_H h m (gr_ui t 0 6 (nI (gs_pl s + 2)))) := by
          rw [hQ, ep]; exact ⟨rfl, rfl⟩
        simp only [r40_0, r40_1, r40_4, r40_4n, r40_5, r40_9, r40_10, r40_11, r40_12, r40_13, r40_14, r40_15, r40_18, r40_18n, r40_19, r40_23, r40_24, r40_25, r40_26, r40_29, r40_29n, r40_30, r40_34, r40_35, r40_36, r40_37, r40_38, r40_39, r40_42, r40_42n, r40_43, r40_48, r40_49, r40_50, r40_51, r40_54, r40_54n, r40_55, r40_59, r40_60, r40_61, r40_62, r40_63, r40_63n, r40_64, r40_68, r40_69, r40_70, r40_73, r40_74, r40_77, r40_78, i32_10, reduceIte, gm_cmp1, gm_cmp3, gm_cmp4, gm_kd_sf, gm_ln_sf, gm_sf_1, gm_sf_2, gm_nw_1, gm_nw_2, gm_k_int, gm_k_ref, gm_k_null, gm_k_u, gm_k_long, and_true, true_and, true_or, or_true, or_false, false_or, and_self, or_self, if_true, if_false, List.map_nil, List.map_cons, List.sum_nil, List.sum_cons, Nat.zero_le, Option.toList_some, Option.toList_none, List.cons_append, List.nil_append, ne_eq, not_false_eq_true, not_true_eq_false, nI_1, nI_add, Value.category, Nat.reduceAdd, Nat.reduceMod, Nat.reduceLeDiff, Nat.reduceLT, Nat.reduceEqDiff, Nat.reducePow, Nat.le_refl, Nat.add_left_cancel_iff, Nat.add_eq_left, Nat.left_eq_add, Nat.add_zero]
        exact fin
      · obtain ⟨v, t', q1, q2, q3⟩ := q.2 (by omega)
        cases q1
        subst q2
        have ep : gs_prim K 1 s = .error (-3) := by
          unfold gs_prim gs_b
          rw [show (if ((1 : Int32) = 0 ∨ (1 : Int32) = 5) then 1 else if ((1 : Int32) = 1 ∨ (1 : Int32) = 4) then 2 else if (1 : Int32) = 2 then 4 else 8) = 2 by decide, gs_nxt_n hpn hl]
        have fin : ∀ w, Q (.inl (some (.long w))) (gr_H h m t') := fun w => by
          rw [hQ, ep]; exact ⟨w, t', rfl, rfl, q3⟩
        simp only [r40_0, r40_1, r40_4, r40_4n, r40_5, r40_9, r40_10, r40_11, r40_12, r40_13, r40_14, r40_15, r40_18, r40_18n, r40_19, r40_23, r40_24, r40_25, r40_26, r40_29, r40_29n, r40_30, r40_34, r40_35, r40_36, r40_37, r40_38, r40_39, r40_42, r40_42n, r40_43, r40_48, r40_49, r40_50, r40_51, r40_54, r40_54n, r40_55, r40_59, r40_60, r40_61, r40_62, r40_63, r40_63n, r40_64, r40_68, r40_69, r40_70, r40_73, r40_74, r40_77, r40_78, i32_10, reduceIte, gm_cmp1, gm_cmp3, gm_cmp4, gm_kd_sf, gm_ln_sf, gm_sf_1, gm_sf_2, gm_nw_1, gm_nw_2, gm_k_int, gm_k_ref, gm_k_null, gm_k_u, gm_k_long, and_true, true_and, true_or, or_true, or_false, false_or, and_self, or_self, if_true, if_false, List.map_nil, List.map_cons, List.sum_nil, List.sum_cons, Nat.zero_le, Option.toList_some, Option.toList_none, List.cons_append, List.nil_append, ne_eq, not_false_eq_true, not_true_eq_false, nI_1, nI_add, Value.category, Nat.reduceAdd, Nat.reduceMod, Nat.reduceLeDiff, Nat.reduceLT, Nat.reduceEqDiff, Nat.reducePow, Nat.le_refl, Nat.add_left_cancel_iff, Nat.add_eq_left, Nat.left_eq_add, Nat.add_zero]
        exact fin _
    · by_cases hl : gs_pl s + 2 ≤ gs_n K
      · cases (q.1 hl).1
      · obtain ⟨v, t', q1, -, -⟩ := q.2 (by omega)
        cases q1
  · simp only [r40_0, r40_1, r40_4, r40_4n, r40_5, r40_9, r40_10, r40_11, r40_12, r40_13, r40_14, r40_15, r40_18, r40_18n, r40_19, r40_23, r40_24, r40_25, r40_26, r40_29, r40_29n, r40_30, r40_34, r40_35, r40_36, r40_37, r40_38, r40_39, r40_42, r40_42n, r40_43, r40_48, r40_49, r40_50, r40_51, r40_54, r40_54n, r40_55, r40_59, r40_60, r40_61, r40_62, r40_63, r40_63n, r40_64, r40_68, r40_69, r40_70, r40_73, r40_74, r40_77, r40_78, i32_10, reduceIte, gm_cmp1, gm_cmp3, gm_cmp4, gm_kd_sf, gm_ln_sf, gm_sf_1, gm_sf_2, gm_nw_1, gm_nw_2, gm_k_int, gm_k_ref, gm_k_null, gm_k_u, gm_k_long, and_true, true_and, true_or, or_true, or_false, false_or, and_self, or_self, if_true, if_false, List.map_nil, List.map_cons, List.sum_nil, List.sum_cons, Nat.zero_le, Option.toList_some, Option.toList_none, List.cons_append, List.nil_append, ne_eq, not_false_eq_true, not_true_eq_false, nI_1, nI_add, Value.category, Nat.reduceAdd, Nat.reduceMod, Nat.reduceLeDiff, Nat.reduceLT, Nat.reduceEqDiff, Nat.reducePow, Nat.le_refl, Nat.add_left_cancel_iff, Nat.add_eq_left, Nat.left_eq_add, Nat.add_zero, d01, d02, d03, d04, d05, d12, d13, d14, d15, d23, d24, d25, d34, d35, d45]
    refine c40_31 (by simp) g_k0 (by omega) (m_number (k := 4) (by omega) B hp hpn h8 (by decide)) (fun w h' q => ?_) (fun x h' q => ?_)
    · by_cases hl : gs_pl s + 4 ≤ gs_n K
      · obtain ⟨q1, q2⟩ := q.1 hl
        cases q1
        subst q2
        obtain ⟨v, hv⟩ : ∃ v, v = gs_num K (gs_pl s) 4 := ⟨_, rfl⟩
        have ep : gs_prim K 2 s = .ok (v.toInt32.toInt64, gs_p (gs_pl s + 4) s) := by
          unfold gs_prim gs_b
          rw [show (if ((2 : Int32) = 0 ∨ (2 : Int32) = 5) then 1 else if ((2 : Int32) = 1 ∨ (2 : Int32) = 4) then 2 else if (2 : Int32) = 2 then 4 else 8) = 4 by decide, gs_nxt_y hl, ← hv]
          rfl
        rw [← hv]
        have fin : Q (.inl (some (.long v.toInt32.toInt64))) (gr_H h m (gr_ui t 0 6 (nI (gs_pl s + 4)))) := by
          rw [hQ, ep]; exact ⟨rfl, rfl⟩
        simp only [r40_0, r40_1, r40_4, r40_4n, r40_5, r40_9, r40_10, r40_11, r40_12, r40_13, r40_14, r40_15, r40_18, r40_18n, r40_19, r40_23, r40_24, r40_25, r40_26, r40_29, r40_29n, r40_30, r40_34, r40_35, r40_36, r40_37, r40_38, r40_39, r40_42, r40_42n, r40_43, r40_48, r40_49, r40_50, r40_51, r40_54, r40_54n, r40_55, r40_59, r40_60, r40_61, r40_62, r40_63, r40_63n, r40_64, r40_68, r40_69, r40_70, r40_73, r40_74, r40_77, r40_78, i32_10, reduceIte, gm_cmp1, gm_cmp3, gm_cmp4, gm_kd_sf, gm_ln_sf, gm_sf_1, gm_sf_2, gm_nw_1, gm_nw_2, gm_k_int, gm_k_ref, gm_k_null, gm_k_u, gm_k_long, and_true, true_and, true_or, or_true, or_false, false_or, and_self, or_self, if_true, if_false, List.map_nil, List.map_cons, List.sum_nil, List.sum_cons, Nat.zero_le, Option.toList_some, Option.toList_none, List.cons_append, List.nil_append, ne_eq, not_false_eq_true, not_true_eq_false, nI_1, nI_add, Value.category, Nat.reduceAdd, Nat.reduceMod, Nat.reduceLeDiff, Nat.reduceLT, Nat.reduceEqDiff, Nat.reducePow, Nat.le_refl, Nat.add_left_cancel_iff, Nat.add_eq_left, Nat.left_eq_add, Nat.add_zero]
        exact fin
      · obtain ⟨v, t', q1, q2, q3⟩ := q.2 (by omega)
        cases q1
        subst q2
        have ep : gs_prim K 2 s = .error (-3) := by
          unfold gs_prim gs_b
          rw [show (if ((2 : Int32) = 0 ∨ (2 : Int32) = 5) then 1 else if ((2 : Int32) = 1 ∨ (2 : Int32) = 4) then 2 else if (2 : Int32) = 2 then 4 else 8) = 4 by decide, gs_nxt_n hpn hl]
        have fin : ∀ w, Q (.inl (some (.long w))) (gr_H h m t') := fun w => by
          rw [hQ, ep]; exact ⟨w, t', rfl, rfl, q3⟩
        simp only [r40_0, r40_1, r40_4, r40_4n, r40_5, r40_9, r40_10, r40_11, r40_12, r40_13, r40_14, r40_15, r40_18, r40_18n, r40_19, r40_23, r40_24, r40_25, r40_26, r40_29, r40_29n, r40_30, r40_34, r40_35, r40_36, r40_37, r40_38, r40_39, r40_42, r40_42n, r40_43, r40_48, r40_49, r40_50, r40_51, r40_54, r40_54n, r40_55, r40_59, r40_60, r40_61, r40_62, r40_63, r40_63n, r40_64, r40_68, r40_69, r40_70, r40_73, r40_74, r40_77, r40_78, i32_10, reduceIte, gm_cmp1, gm_cmp3, gm_cmp4, gm_kd_sf, gm_ln_sf, gm_sf_1, gm_sf_2, gm_nw_1, gm_nw_2, gm_k_int, gm_k_ref, gm_k_null, gm_k_u, gm_k_long, and_true, true_and, true_or, or_true, or_false, false_or, and_self, or_self, if_true, if_false, List.map_nil, List.map_cons, List.sum_nil, List.sum_cons, Nat.zero_le, Option.toList_some, Option.toList_none, List.cons_append, List.nil_append, ne_eq, not_false_eq_true, not_true_eq_false, nI_1, nI_add, Value.category, Nat.reduceAdd, Nat.reduceMod, Nat.reduceLeDiff, Nat.reduceLT, Nat.reduceEqDiff, Nat.reducePow, Nat.le_refl, Nat.add_left_cancel_iff, Nat.add_eq_left, Nat.left_eq_add, Nat.add_zero]
        exact fin _
    · by_cases hl : gs_pl s + 4 ≤ gs_n K
      · cases (q.1 hl).1
      · obtain ⟨v, t', q1, -, -⟩ := q.2 (by omega)
        cases q1
  · simp only [r40_0, r40_1, r40_4, r40_4n, r40_5, r40_9, r40_10, r40_11, r40_12, r40_13, r40_14, r40_15, r40_18, r40_18n, r40_19, r40_23, r40_24, r40_25, r40_26, r40_29, r40_29n, r40_30, r40_34, r40_35, r40_36, r40_37, r40_38, r40_39, r40_42, r40_42n, r40_43, r40_48, r40_49, r40_50, r40_51, r40_54, r40_54n, r40_55, r40_59, r40_60, r40_61, r40_62, r40_63, r40_63n, r40_64, r40_68, r40_69, r40_70, r40_73, r40_74, r40_77, r40_78, i32_10, reduceIte, gm_cmp1, gm_cmp3, gm_cmp4, gm_kd_sf, gm_ln_sf, gm_sf_1, gm_sf_2, gm_nw_1, gm_nw_2, gm_k_int, gm_k_ref, gm_k_null, gm_k_u, gm_k_long, and_true, true_and, true_or, or_true, or_false, false_or, and_self, or_self, if_true, if_false, List.map_nil, List.map_cons, List.sum_nil, List.sum_cons, Nat.zero_le, Option.toList_some, Option.toList_none, List.cons_append, List.nil_append, ne_eq, not_false_eq_true, not_true_eq_false, nI_1, nI_add, Value.category, Nat.reduceAdd, Nat.reduceMod, Nat.reduceLeDiff, Nat.reduceLT, Nat.reduceEqDiff, Nat.reducePow, Nat.le_refl, Nat.add_left_cancel_iff, Nat.add_eq_left, Nat.left_eq_add, Nat.add_zero, d01, d02, d03, d04, d05, d12, d13, d14, d15, d23, d24, d25, d34, d35, d45]
    refine c40_45 (by simp) g_k0 (by omega) (m_number (k := 8) (by omega) B hp hpn h8 (by decide)) (fun w h' q => ?_) (fun x h' q => ?_)
    · by_cases hl : gs_pl s + 8 ≤ gs_n K
      · obtain ⟨q1, q2⟩ := q.1 hl
        cases q1
        subst q2
        obtain ⟨v, hv⟩ : ∃ v, v = gs_num K (gs_pl s) 8 := ⟨_, rfl⟩
        have ep : gs_prim K 3 s = .ok (v, gs_p (gs_pl s + 8) s) := by
          unfold gs_prim gs_b
          rw [show (if ((3 : Int32) = 0 ∨ (3 : Int32) = 5) then 1 else if ((3 : Int32) = 1 ∨ (3 : Int32) = 4) then 2 else if (3 : Int32) = 2 then 4 else 8) = 8 by decide, gs_nxt_y hl, ← hv]
          rfl
        rw [← hv]
        have fin : Q (.inl (some (.long v))) (gr_H h m (gr_ui t 0 6 (nI (gs_pl s + 8)))) := by
          rw [hQ, ep]; exact ⟨rfl, rfl⟩
        simp only [r40_0, r40_1, r40_4, r40_4n, r40_5, r40_9, r40_10, r40_11, r40_12, r40_13, r40_14, r40_15, r40_18, r40_18n, r40_19, r40_23, r40_24, r40_25, r40_26, r40_29, r40_29n, r40_30, r40_34, r40_35, r40_36, r40_37, r40_38, r40_39, r40_42, r40_42n, r40_43, r40_48, r40_49, r40_50, r40_51, r40_54, r40_54n, r40_55, r40_59, r40_60, r40_61, r40_62, r40_63, r40_63n, r40_64, r40_68, r40_69, r40_70, r40_73, r40_74, r40_77, r40_78, i32_10, reduceIte, gm_cmp1, gm_cmp3, gm_cmp4, gm_kd_sf, gm_ln_sf, gm_sf_1, gm_sf_2, gm_nw_1, gm_nw_2, gm_k_int, gm_k_ref, gm_k_null, gm_k_u, gm_k_long, and_true, true_and, true_or, or_true, or_false, false_or, and_self, or_self, if_true, if_false, List.map_nil, List.map_cons, List.sum_nil, List.sum_cons, Nat.zero_le, Option.toList_some, Option.toList_none, List.cons_append, List.nil_append, ne_eq, not_false_eq_true, not_true_eq_false, nI_1, nI_add, Value.category, Nat.reduceAdd, Nat.reduceMod, Nat.reduceLeDiff, Nat.reduceLT, Nat.reduceEqDiff, Nat.reducePow, Nat.le_refl, Nat.add_left_cancel_iff, Nat.add_eq_left, Nat.left_eq_add, Nat.add_zero]
        exact fin
      · obtain ⟨v, t', q1, q2, q3⟩ := q.2 (by omega)
        cases q1
        subst q2
        have ep : gs_prim K 3 s = .error (-3) := by
          unfold gs_prim gs_b
          rw [show (if ((3 : Int32) = 0 ∨ (3 : Int32) = 5) then 1 else if ((3 : Int32) = 1 ∨ (3 : Int32) = 4) then 2 else if (3 : Int32) = 2 then 4 else 8) = 8 by decide, gs_nxt_n hpn hl]
        have fin : ∀ w, Q (.inl (some (.long w))) (gr_H h m t') := fun w => by
          rw [hQ, ep]; exact ⟨w, t', rfl, rfl, q3⟩
        simp only [r40_0, r40_1, r40_4, r40_4n, r40_5, r40_9, r40_10, r40_11, r40_12, r40_13, r40_14, r40_15, r40_18, r40_18n, r40_19, r40_23, r40_24, r40_25, r40_26, r40_29, r40_29n, r40_30, r40_34, r40_35, r40_36, r40_37, r40_38, r40_39, r40_42, r40_42n, r40_43, r40_48, r40_49, r40_50, r40_51, r40_54, r40_54n, r40_55, r40_59, r40_60, r40_61, r40_62, r40_63, r40_63n, r40_64, r40_68, r40_69, r40_70, r40_73, r40_74, r40_77, r40_78, i32_10, reduceIte, gm_cmp1, gm_cmp3, gm_cmp4, gm_kd_sf, gm_ln_sf, gm_sf_1, gm_sf_2, gm_nw_1, gm_nw_2, gm_k_int, gm_k_ref, gm_k_null, gm_k_u, gm_k_long, and_true, true_and, true_or, or_true, or_false, false_or, and_self, or_self, if_true, if_false, List.map_nil, List.map_cons, List.sum_nil, List.sum_cons, Nat.zero_le, Option.toList_some, Option.toList_none, List.cons_append, List.nil_append, ne_eq, not_false_eq_true, not_true_eq_false, nI_1, nI_add, Value.category, Nat.reduceAdd, Nat.reduceMod, Nat.reduceLeDiff, Nat.reduceLT, Nat.reduceEqDiff, Nat.reducePow, Nat.le_refl, Nat.add_left_cancel_iff, Nat.add_eq_left, Nat.left_eq_add, Nat.add_zero]
        exact fin _
    · by_cases hl : gs_pl s + 8 ≤ gs_n K
      · cases (q.1 hl).1
      · obtain ⟨v, t', q1, -, -⟩ := q.2 (by omega)
        cases q1
  · simp only [r40_0, r40_1, r40_4, r40_4n, r40_5, r40_9, r40_10, r40_11, r40_12, r40_13, r40_14, r40_15, r40_18, r40_18n, r40_19, r40_23, r40_24, r40_25, r40_26, r40_29, r40_29n, r40_30, r40_34, r40_35, r40_36, r40_37, r40_38, r40_39, r40_42, r40_42n, r40_43, r40_48, r40_49, r40_50, r40_51, r40_54, r40_54n, r40_55, r40_59, r40_60, r40_61, r40_62, r40_63, r40_63n, r40_64, r40_68, r40_69, r40_70, r40_73, r40_74, r40_77, r40_78, i32_10, reduceIte, gm_cmp1, gm_cmp3, gm_cmp4, gm_kd_sf, gm_ln_sf, gm_sf_1, gm_sf_2, gm_nw_1, gm_nw_2, gm_k_int, gm_k_ref, gm_k_null, gm_k_u, gm_k_long, and_true, true_and, true_or, or_true, or_false, false_or, and_self, or_self, if_true, if_false, List.map_nil, List.map_cons, List.sum_nil, List.sum_cons, Nat.zero_le, Option.toList_some, Option.toList_none, List.cons_append, List.nil_append, ne_eq, not_false_eq_true, not_true_eq_false, nI_1, nI_add, Value.category, Nat.reduceAdd, Nat.reduceMod, Nat.reduceLeDiff, Nat.reduceLT, Nat.reduceEqDiff, Nat.reducePow, Nat.le_refl, Nat.add_left_cancel_iff, Nat.add_eq_left, Nat.left_eq_add, Nat.add_zero, d01, d02, d03, d04, d05, d12, d13, d14, d15, d23, d24, d25, d34, d35, d45]
    refine c40_56 (by simp) g_k0 (by omega) (m_number (k := 2) (by omega) B hp hpn h8 (by decide)) (fun w h' q => ?_) (fun x h' q => ?_)
    · by_cases hl : gs_pl s + 2 ≤ gs_n K
      · obtain ⟨q1, q2⟩ := q.1 hl
        cases q1
        subst q2
        obtain ⟨v, hv⟩ : ∃ v, v = gs_num K (gs_pl s) 2 := ⟨_, rfl⟩
        have ep : gs_prim K 4 s = .ok (v.toInt32.toInt16.toInt32.toInt64, gs_p (gs_pl s + 2) s) := by
          unfold gs_prim gs_b
          rw [show (if ((4 : Int32) = 0 ∨ (4 : Int32) = 5) then 1 else if ((4 : Int32) = 1 ∨ (4 : Int32) = 4) then 2 else if (4 : Int32) = 2 then 4 else 8) = 2 by decide, gs_nxt_y hl, ← hv]
          rfl
        rw [← hv]
        have fin : Q (.inl (some (.long v.toInt32.toInt16.toInt32.toInt64))) (gr_H h m (gr_ui t 0 6 (nI (gs_pl s + 2)))) := by
          rw [hQ, ep]; exact ⟨rfl, rfl⟩
        simp only [r40_0, r40_1, r40_4, r40_4n, r40_5, r40_9, r40_10, r40_11, r40_12, r40_13, r40_14, r40_15, r40_18, r40_18n, r40_19, r40_23, r40_24, r40_25, r40_26, r40_29, r40_29n, r40_30, r40_34, r40_35, r40_36, r40_37, r40_38, r40_39, r40_42, r40_42n, r40_43, r40_48, r40_49, r40_50, r40_51, r40_54, r40_54n, r40_55, r40_59, r40_60, r40_61, r40_62, r40_63, r40_63n, r40_64, r40_68, r40_69, r40_70, r40_73, r40_74, r40_77, r40_78, i32_10, reduceIte, gm_cmp1, gm_cmp3, gm_cmp4, gm_kd_sf, gm_ln_sf, gm_sf_1, gm_sf_2, gm_nw_1, gm_nw_2, gm_k_int, gm_k_ref, gm_k_null, gm_k_u, gm_k_long, and_true, true_and, true_or, or_true, or_false, false_or, and_self, or_self, if_true, if_false, List.map_nil, List.map_cons, List.sum_nil, List.sum_cons, Nat.zero_le, Option.toList_some, Option.toList_none, List.cons_append, List.nil_append, ne_eq, not_false_eq_true, not_true_eq_false, nI_1, nI_add, Value.category, Nat.reduceAdd, Nat.reduceMod, Nat.reduceLeDiff, Nat.reduceLT, Nat.reduceEqDiff, Nat.reducePow, Nat.le_refl, Nat.add_left_cancel_iff, Nat.add_eq_left, Nat.left_eq_add, Nat.add_zero]
        exact fin
      · obtain ⟨v, t', q1, q2, q3⟩ := q.2 (by omega)
        cases q1
        subst q2
        have ep : gs_prim K 4 s = .error (-3) := by
          unfold gs_prim gs_b
          rw [show (if ((4 : Int32) = 0 ∨ (4 : Int32) = 5) then 1 else if ((4 : Int32) = 1 ∨ (4 : Int32) = 4) then 2 else if (4 : Int32) = 2 then 4 else 8) = 2 by decide, gs_nxt_n hpn hl]
        have fin : ∀ w, Q (.inl (some (.long w))) (gr_H h m t') := fun w => by
          rw [hQ, ep]; exact ⟨w, t', rfl, rfl, q3⟩
        simp only [r40_0, r40_1, r40_4, r40_4n, r40_5, r40_9, r40_10, r40_11, r40_12, r40_13, r40_14, r40_15, r40_18, r40_18n, r40_19, r40_23, r40_24, r40_25, r40_26, r40_29, r40_29n, r40_30, r40_34, r40_35, r40_36, r40_37, r40_38, r40_39, r40_42, r40_42n, r40_43, r40_48, r40_49, r40_50, r40_51, r40_54, r40_54n, r40_55, r40_59, r40_60, r40_61, r40_62, r40_63, r40_63n, r40_64, r40_68, r40_69, r40_70, r40_73, r40_74, r40_77, r40_78, i32_10, reduceIte, gm_cmp1, gm_cmp3, gm_cmp4, gm_kd_sf, gm_ln_sf, gm_sf_1, gm_sf_2, gm_nw_1, gm_nw_2, gm_k_int, gm_k_ref, gm_k_null, gm_k_u, gm_k_long, and_true, true_and, true_or, or_true, or_false, false_or, and_self, or_self, if_true, if_false, List.map_nil, List.map_cons, List.sum_nil, List.sum_cons, Nat.zero_le, Option.toList_some, Option.toList_none, List.cons_append, List.nil_append, ne_eq, not_false_eq_true, not_true_eq_false, nI_1, nI_add, Value.category, Nat.reduceAdd, Nat.reduceMod, Nat.reduceLeDiff, Nat.reduceLT, Nat.reduceEqDiff, Nat.reducePow, Nat.le_refl, Nat.add_left_cancel_iff, Nat.add_eq_left, Nat.left_eq_add, Nat.add_zero]
        exact fin _
    · by_cases hl : gs_pl s + 2 ≤ gs_n K
      · cases (q.1 hl).1
      · obtain ⟨v, t', q1, -, -⟩ := q.2 (by omega)
        cases q1
  · simp only [r40_0, r40_1, r40_4, r40_4n, r40_5, r40_9, r40_10, r40_11, r40_12, r40_13, r40_14, r40_15, r40_18, r40_18n, r40_19, r40_23, r40_24, r40_25, r40_26, r40_29, r40_29n, r40_30, r40_34, r40_35, r40_36, r40_37, r40_38, r40_39, r40_42, r40_42n, r40_43, r40_48, r40_49, r40_50, r40_51, r40_54, r40_54n, r40_55, r40_59, r40_60, r40_61, r40_62, r40_63, r40_63n, r40_64, r40_68, r40_69, r40_70, r40_73, r40_74, r40_77, r40_78, i32_10, reduceIte, gm_cmp1, gm_cmp3, gm_cmp4, gm_kd_sf, gm_ln_sf, gm_sf_1, gm_sf_2, gm_nw_1, gm_nw_2, gm_k_int, gm_k_ref, gm_k_null, gm_k_u, gm_k_long, and_true, true_and, true_or, or_true, or_false, false_or, and_self, or_self, if_true, if_false, List.map_nil, List.map_cons, List.sum_nil, List.sum_cons, Nat.zero_le, Option.toList_some, Option.toList_none, List.cons_append, List.nil_append, ne_eq, not_false_eq_true, not_true_eq_false, nI_1, nI_add, Value.category, Nat.reduceAdd, Nat.reduceMod, Nat.reduceLeDiff, Nat.reduceLT, Nat.reduceEqDiff, Nat.reducePow, Nat.le_refl, Nat.add_left_cancel_iff, Nat.add_eq_left, Nat.left_eq_add, Nat.add_zero, d01, d02, d03, d04, d05, d12, d13, d14, d15, d23, d24, d25, d34, d35, d45]
    refine c40_65 (by simp) g_k0 (by omega) (m_number (k := 1) (by omega) B hp hpn h8 (by decide)) (fun w h' q => ?_) (fun x h' q => ?_)
    · by_cases hl : gs_pl s + 1 ≤ gs_n K
      · obtain ⟨q1, q2⟩ := q.1 hl
        cases q1
        subst q2
        obtain ⟨v, hv⟩ : ∃ v, v = gs_num K (gs_pl s) 1 := ⟨_, rfl⟩
        have ep : gs_prim K 5 s = .ok ((if v = 0 then 0 else 1), gs_p (gs_pl s + 1) s) := by
          unfold gs_prim gs_b
          rw [show (if ((5 : Int32) = 0 ∨ (5 : Int32) = 5) then 1 else if ((5 : Int32) = 1 ∨ (5 : Int32) = 4) then 2 else if (5 : Int32) = 2 then 4 else 8) = 1 by decide, gs_nxt_y hl, ← hv]
          rfl
        rw [← hv]
        have fin : Q (.inl (some (.long (if v = 0 then 0 else 1)))) (gr_H h m (gr_ui t 0 6 (nI (gs_pl s + 1)))) := by
          rw [hQ, ep]; exact ⟨rfl, rfl⟩
        by_cases v0 : v = 0
        · rw [if_pos v0] at fin
          simp only [r40_0, r40_1, r40_4, r40_4n, r40_5, r40_9, r40_10, r40_11, r40_12, r40_13, r40_14, r40_15, r40_18, r40_18n, r40_19, r40_23, r40_24, r40_25, r40_26, r40_29, r40_29n, r40_30, r40_34, r40_35, r40_36, r40_37, r40_38, r40_39, r40_42, r40_42n, r40_43, r40_48, r40_49, r40_50, r40_51, r40_54, r40_54n, r40_55, r40_59, r40_60, r40_61, r40_62, r40_63, r40_63n, r40_64, r40_68, r40_69, r40_70, r40_73, r40_74, r40_77, r40_78, i32_10, reduceIte, gm_cmp1, gm_cmp3, gm_cmp4, gm_kd_sf, gm_ln_sf, gm_sf_1, gm_sf_2, gm_nw_1, gm_nw_2, gm_k_int, gm_k_ref, gm_k_null, gm_k_u, gm_k_long, and_true, true_and, true_or, or_true, or_false, false_or, and_self, or_self, if_true, if_false, List.map_nil, List.map_cons, List.sum_nil, List.sum_cons, Nat.zero_le, Option.toList_some, Option.toList_none, List.cons_append, List.nil_append, ne_eq, not_false_eq_true, not_true_eq_false, nI_1, nI_add, Value.category, Nat.reduceAdd, Nat.reduceMod, Nat.reduceLeDiff, Nat.reduceLT, Nat.reduceEqDiff, Nat.reducePow, Nat.le_refl, Nat.add_left_cancel_iff, Nat.add_eq_left, Nat.left_eq_add, Nat.add_zero, gx_cmp_eq, v0]
          exact fin
        · rw [if_neg v0] at fin
          simp only [r40_0, r40_1, r40_4, r40_4n, r40_5, r40_9, r40_10, r40_11, r40_12, r40_13, r40_14, r40_15, r40_18, r40_18n, r40_19, r40_23, r40_24, r40_25, r40_26, r40_29, r40_29n, r40_30, r40_34, r40_35, r40_36, r40_37, r40_38, r40_39, r40_42, r40_42n, r40_43, r40_48, r40_49, r40_50, r40_51, r40_54, r40_54n, r40_55, r40_59, r40_60, r40_61, r40_62, r40_63, r40_63n, r40_64, r40_68, r40_69, r40_70, r40_73, r40_74, r40_77, r40_78, i32_10, reduceIte, gm_cmp1, gm_cmp3, gm_cmp4, gm_kd_sf, gm_ln_sf, gm_sf_1, gm_sf_2, gm_nw_1, gm_nw_2, gm_k_int, gm_k_ref, gm_k_null, gm_k_u, gm_k_long, and_true, true_and, true_or, or_true, or_false, false_or, and_self, or_self, if_true, if_false, List.map_nil, List.map_cons, List.sum_nil, List.sum_cons, Nat.zero_le, Option.toList_some, Option.toList_none, List.cons_append, List.nil_append, ne_eq, not_false_eq_true, not_true_eq_false, nI_1, nI_add, Value.category, Nat.reduceAdd, Nat.reduceMod, Nat.reduceLeDiff, Nat.reduceLT, Nat.reduceEqDiff, Nat.reducePow, Nat.le_refl, Nat.add_left_cancel_iff, Nat.add_eq_left, Nat.left_eq_add, Nat.add_zero, gx_cmp_eq, v0]
          exact fin
      · obtain ⟨v, t', q1, q2, q3⟩ := q.2 (by omega)
        cases q1
        subst q2
        have ep : gs_prim K 5 s = .error (-3) := by
          unfold gs_prim gs_b
          rw [show (if ((5 : Int32) = 0 ∨ (5 : Int32) = 5) then 1 else if ((5 : Int32) = 1 ∨ (5 : Int32) = 4) then 2 else if (5 : Int32) = 2 then 4 else 8) = 1 by decide, gs_nxt_n hpn hl]
        have fin : ∀ w, Q (.inl (some (.long w))) (gr_H h m t') := fun w => by
          rw [hQ, ep]; exact ⟨w, t', rfl, rfl, q3⟩
        by_cases v0 : v = 0
        · simp only [r40_0, r40_1, r40_4, r40_4n, r40_5, r40_9, r40_10, r40_11, r40_12, r40_13, r40_14, r40_15, r40_18, r40_18n, r40_19, r40_23, r40_24, r40_25, r40_26, r40_29, r40_29n, r40_30, r40_34, r40_35, r40_36, r40_37, r40_38, r40_39, r40_42, r40_42n, r40_43, r40_48, r40_49, r40_50, r40_51, r40_54, r40_54n, r40_55, r40_59, r40_60, r40_61, r40_62, r40_63, r40_63n, r40_64, r40_68, r40_69, r40_70, r40_73, r40_74, r40_77, r40_78, i32_10, reduceIte, gm_cmp1, gm_cmp3, gm_cmp4, gm_kd_sf, gm_ln_sf, gm_sf_1, gm_sf_2, gm_nw_1, gm_nw_2, gm_k_int, gm_k_ref, gm_k_null, gm_k_u, gm_k_long, and_true, true_and, true_or, or_true, or_false, false_or, and_self, or_self, if_true, if_false, List.map_nil, List.map_cons, List.sum_nil, List.sum_cons, Nat.zero_le, Option.toList_some, Option.toList_none, List.cons_append, List.nil_append, ne_eq, not_false_eq_true, not_true_eq_false, nI_1, nI_add, Value.category, Nat.reduceAdd, Nat.reduceMod, Nat.reduceLeDiff, Nat.reduceLT, Nat.reduceEqDiff, Nat.reducePow, Nat.le_refl, Nat.add_left_cancel_iff, Nat.add_eq_left, Nat.left_eq_add, Nat.add_zero, gx_cmp_eq, v0]
          exact fin _
        · simp only [r40_0, r40_1, r40_4, r40_4n, r40_5, r40_9, r40_10, r40_11, r40_12, r40_13, r40_14, r40_15, r40_18, r40_18n, r40_19, r40_23, r40_24, r40_25, r40_26, r40_29, r40_29n, r40_30, r40_34, r40_35, r40_36, r40_37, r40_38, r40_39, r40_42, r40_42n, r40_43, r40_48, r40_49, r40_50, r40_51, r40_54, r40_54n, r40_55, r40_59, r40_60, r40_61, r40_62, r40_63, r40_63n, r40_64, r40_68, r40_69, r40_70, r40_73, r40_74, r40_77, r40_78, i32_10, reduceIte, gm_cmp1, gm_cmp3, gm_cmp4, gm_kd_sf, gm_ln_sf, gm_sf_1, gm_sf_2, gm_nw_1, gm_nw_2, gm_k_int, gm_k_ref, gm_k_null, gm_k_u, gm_k_long, and_true, true_and, true_or, or_true, or_false, false_or, and_self, or_self, if_true, if_false, List.map_nil, List.map_cons, List.sum_nil, List.sum_cons, Nat.zero_le, Option.toList_some, Option.toList_none, List.cons_append, List.nil_append, ne_eq, not_false_eq_true, not_true_eq_false, nI_1, nI_add, Value.category, Nat.reduceAdd, Nat.reduceMod, Nat.reduceLeDiff, Nat.reduceLT, Nat.reduceEqDiff, Nat.reducePow, Nat.le_refl, Nat.add_left_cancel_iff, Nat.add_eq_left, Nat.left_eq_add, Nat.add_zero, gx_cmp_eq, v0]
          exact fin _
    · by_cases hl : gs_pl s + 1 ≤ gs_n K
      · cases (q.1 hl).1
      · obtain ⟨v, t', q1, -, -⟩ := q.2 (by omega)
        cases q1
end MC
