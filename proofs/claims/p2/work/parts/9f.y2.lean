/-! THE CLASS, 11: rests and a descriptor's fields, with a read one deeper. -/
/-- reading at a depth does what rc does -/
def gx_RC (E : Nat → Value) (x : Nat) (ca : Nat → Nat) (K : gs_K) (d0 dp : Nat) (rc : gs_M Int32) : Prop := ∀ (d : Nat) (h : gm_H) (s : gs_S) (F G : Nat → Prop), d0 ≤ d → gx_R E h x ca K F s → (∀ a, F a → a < h.1) → gm_Ca E d 82 [.ref x, .int (nI dp)] h (gx_P E h x ca K F G s (fun a _ v => v = some (.int a)) (rc s))
section Y2
variable {E : Nat → Value} {d x d0 dp : Nat} {h : gm_H} {ca : Nat → Nat} {K : gs_K} {F G : Nat → Prop} {s : gs_S} {rc : gs_M Int32}
theorem x_passRest (C : gx_RC E x ca K d0 (dp + 1) rc) (hK : gs_rst K = false) (hdp : dp < 1000) (hd : d0 + 1 ≤ d) (hd4 : 4 ≤ d) (R : gx_R E h x ca K F s) (hF : ∀ a, F a → a < h.1) : gm_Ca E d 76 [.ref x, .int (nI dp)] h (gx_P E h x ca K F G s (fun _ _ v => v = none) (gs_rest K rc 701 s)) := by
  have loop : ∀ (m k : Nat) (s : gs_S) (h : gm_H) (w3 : Value), k + m = 701 → gx_R E h x ca K F s → (∀ a, F a → a < h.1) → gm_W E d 76 2 [.ref x, .int (nI dp), .int (nI k), w3] [] h (gx_P E h x ca K F G s (fun _ _ v => v = none) (gs_rest K rc m s)) := by
    intro m
    induction m with
    | zero =>
      intro k s h w3 hk R hF
      have hk : k = 701 := by omega
      subst hk
      have e1 : (700 : Int32) < nI 701 := by decide
      simp only [r76_0, r76_1, r76_2, r76_3, r76_6, r76_9, r76_9n, r76_10, r76_13, r76_13n, r76_14, r76_17, r76_20, r76_20n, r76_21, r76_26, r76_26a, r76_26n, r76_27, r76_27n, r76_28, r76_31, r76_31n, r76_32, r76_35, r76_36, r76_37, r76_38, r76_40, r76_43, r76_43n, r76_44, r76_44i, r76_45, r76_48, r76_49, r76_50, r76_53, r76_54, r76_58, r76_61, r76_61n, r76_65, r76_65a, r76_65n, r76_66, r76_69, r76_69n, r76_70, r76_71, r76_72, r76_76, r76_76a, r76_76n, r76_77, r76_80, r76_83, i32_10, reduceIte, gm_cmp1, gm_cmp3, gm_cmp4, gm_kd_sf, gm_ln_sf, gm_sf_1, gm_sf_2, gm_nw_1, gm_nw_2, gm_k_int, gm_k_ref, gm_k_null, gm_k_u, gm_k_long, and_true, true_and, true_or, or_true, or_false, false_or, and_self, or_self, if_true, if_false, List.map_nil, List.map_cons, List.sum_nil, List.sum_cons, Nat.zero_le, Option.toList_some, Option.toList_none, List.cons_append, List.nil_append, ne_eq, not_false_eq_true, not_true_eq_false, nI_1, nI_add, Value.category, Nat.reduceAdd, Nat.reduceMod, Nat.reduceLeDiff, Nat.reduceLT, Nat.reduceEqDiff, Nat.reducePow, Nat.le_refl, Nat.add_left_cancel_iff, Nat.add_eq_left, Nat.left_eq_add, Nat.add_zero, e1]
      exact ⟨(), s, rfl, rfl, R, gx_mv.refl, gx_le.refl, gx_co.refl⟩
    | succ m ih =>
      intro k s h w3 hk R hF
      have e1 : ¬ (700 : Int32) < nI k := nI_nlt (b := k) (a := 700) (by omega) (by decide)
      obtain ⟨A0, -, A5, -, -, -, -, A2, A2l, -⟩ := R.1
      obtain ⟨-, -, -, -, B6, B7, B8⟩ := R.2.1
      obtain ⟨z1, z2, z3, z4, z5, z6, z7, z8, z9⟩ := R.2.2.2.1
      rw [r76_2]
      by_cases hc : gs_n K ≤ gs_pl s
      · simp only [r76_0, r76_1, r76_3, r76_6, r76_9, r76_9n, r76_10, r76_13, r76_13n, r76_14, r76_17, r76_20, r76_20n, r76_21, r76_26, r76_26a, r76_26n, r76_27, r76_27n, r76_28, r76_31, r76_31n, r76_32, r76_35, r76_36, r76_37, r76_38, r76_40, r76_43, r76_43n, r76_44, r76_44i, r76_45, r76_48, r76_49, r76_50, r76_53, r76_54, r76_58, r76_61, r76_61n, r76_65, r76_65a, r76_65n, r76_66, r76_69, r76_69n, r76_70, r76_71, r76_72, r76_76, r76_76a, r76_76n, r76_77, r76_80, r76_83, i32_10, reduceIte, gm_cmp1, gm_cmp3, gm_cmp4, gm_kd_sf, gm_ln_sf, gm_sf_1, gm_sf_2, gm_nw_1, gm_nw_2, gm_k_int, gm_k_ref, gm_k_null, gm_k_u, gm_k_long, and_true, true_and, true_or, or_true, or_false, false_or, and_self, or_self, if_true, if_false, List.map_nil, List.map_cons, List.sum_nil, List.sum_cons, Nat.zero_le, Option.toList_some, Option.toList_none, List.cons_append, List.nil_append, ne_eq, not_false_eq_true, not_true_eq_false, nI_1, nI_add, Value.category, Nat.reduceAdd, Nat.reduceMod, Nat.reduceLeDiff, Nat.reduceLT, Nat.reduceEqDiff, Nat.reducePow, Nat.le_refl, Nat.add_left_cancel_iff, Nat.add_eq_left, Nat.left_eq_add, Nat.add_zero, e1, A0, z1, B6, nI_ltF hc (show gs_pl s < 2 ^ 31 by omega)]
        have e : gs_rest K rc (m + 1) s = .error (-3) := by
          unfold gs_rest
          rw [if_pos hc, hK]
          rfl
        rw [e]
        exact c76_23 (by simp) A0 (by omega) (x_fail R) gx_fn (fun _ _ q => q)
      · have hp : gs_pl s < gs_n K := by omega
        have hp7 : gs_pl s < 700 := by omega
        by_cases h78 : gs_sb K (gs_pl s) = 120
        · simp only [r76_0, r76_1, r76_3, r76_6, r76_9, r76_9n, r76_10, r76_13, r76_13n, r76_14, r76_17, r76_20, r76_20n, r76_21, r76_26, r76_26a, r76_26n, r76_27, r76_27n, r76_28, r76_31, r76_31n, r76_32, r76_35, r76_36, r76_37, r76_38, r76_40, r76_43, r76_43n, r76_44, r76_44i, r76_45, r76_48, r76_49, r76_50, r76_53, r76_54, r76_58, r76_61, r76_61n, r76_65, r76_65a, r76_65n, r76_66, r76_69, r76_69n, r76_70, r76_71, r76_72, r76_76, r76_76a, r76_76n, r76_77, r76_80, r76_83, i32_10, reduceIte, gm_cmp1, gm_cmp3, gm_cmp4, gm_kd_sf, gm_ln_sf, gm_sf_1, gm_sf_2, gm_nw_1, gm_nw_2, gm_k_int, gm_k_ref, gm_k_null, gm_k_u, gm_k_long, and_true, true_and, true_or, or_true, or_false, false_or, and_self, or_self, if_true, if_false, List.map_nil, List.map_cons, List.sum_nil, List.sum_cons, Nat.zero_le, Option.toList_some, Option.toList_none, List.cons_append, List.nil_append, ne_eq, not_false_eq_true, not_true_eq_false, nI_1, nI_add, Value.category, Nat.reduceAdd, Nat.reduceMod, Nat.reduceLeDiff, Nat.reduceLT, Nat.reduceEqDiff, Nat.reducePow, Nat.le_refl, Nat.add_left_cancel_iff, Nat.add_eq_left, Nat.left_eq_add, Nat.add_zero, e1, A0, z1, B6, nI_ltT hp (show gs_n K < 2 ^ 31 by omega), A5, A2, A2l, hp7, B8 _ hp, h78]
          have e : gs_rest K rc (m + 1) s = .ok ((), gs_p (gs_pl s + 1) s) := by
            unfold gs_rest
            rw [if_neg hc, if_pos h78]
          rw [e]
          refine ⟨(), _, rfl, rfl, R.place (by omega), gx_mv.fld (by decide), gx_le.refl, ?_⟩
          constructor
          · simp only [gm_sf_1]; show _ + gs_pl s ≤ _ + (gs_pl s + 1); omega
          · simp only [gm_sf_2]; show _ + 8 * gs_pl s ≤ _ + 8 * (gs_pl s + 1); omega
        · simp only [r76_0, r76_1, r76_3, r76_6, r76_9, r76_9n, r76_10, r76_13, r76_13n, r76_14, r76_17, r76_20, r76_20n, r76_21, r76_26, r76_26a, r76_26n, r76_27, r76_27n, r76_28, r76_31, r76_31n, r76_32, r76_35, r76_36, r76_37, r76_38, r76_40, r76_43, r76_43n, r76_44, r76_44i, r76_45, r76_48, r76_49, r76_50, r76_53, r76_54, r76_58, r76_61, r76_61n, r76_65, r76_65a, r76_65n, r76_66, r76_69, r76_69n, r76_70, r76_71, r76_72, r76_76, r76_76a, r76_76n, r76_77, r76_80, r76_83, i32_10, reduceIte, gm_cmp1, gm_cmp3, gm_cmp4, gm_kd_sf, gm_ln_sf, gm_sf_1, gm_sf_2, gm_nw_1, gm_nw_2, gm_k_int, gm_k_ref, gm_k_null, gm_k_u, gm_k_long, and_true, true_and, true_or, or_true, or_false, false_or, and_self, or_self, if_true, if_false, List.map_nil, List.map_cons, List.sum_nil, List.sum_cons, Nat.zero_le, Option.toList_some, Option.toList_none, List.cons_append, List.nil_append, ne_eq, not_false_eq_true, not_true_eq_false, nI_1, nI_add, Value.category, Nat.reduceAdd, Nat.reduceMod, Nat.reduceLeDiff, Nat.reduceLT, Nat.reduceEqDiff, Nat.reducePow, Nat.le_refl, Nat.add_left_cancel_iff, Nat.add_eq_left, Nat.left_eq_add, Nat.add_zero, e1, A0, z1, B6, nI_ltT hp (show gs_n K < 2 ^ 31 by omega), A5, A2, A2l, hp7, B8 _ hp, h78]
          refine c76_55 (by simp) (by omega) (x_isBlock _) (gx_kn ?_) gx_kx
          by_cases hb : gs_isB (gs_sb K (gs_pl s)) = true
          · simp only [r76_0, r76_1, r76_3, r76_6, r76_9, r76_9n, r76_10, r76_13, r76_13n, r76_14, r76_17, r76_20, r76_20n, r76_21, r76_26, r76_26a, r76_26n, r76_27, r76_27n, r76_28, r76_31, r76_31n, r76_32, r76_35, r76_36, r76_37, r76_38, r76_40, r76_43, r76_43n, r76_44, r76_44i, r76_45, r76_48, r76_49, r76_50, r76_53, r76_54, r76_58, r76_61, r76_61n, r76_65, r76_65a, r76_65n, r76_66, r76_69, r76_69n, r76_70, r76_71, r76_72, r76_76, r76_76a, r76_76n, r76_77, r76_80, r76_83, i32_10, reduceIte, gm_cmp1, gm_cmp3, gm_cmp4, gm_kd_sf, gm_ln_sf, gm_sf_1, gm_sf_2, gm_nw_1, gm_nw_2, gm_k_int, gm_k_ref, gm_k_null, gm_k_u, gm_k_long, and_true, true_and, true_or, or_true, or_false, false_or, and_self, or_self, if_true, if_false, List.map_nil, List.map_cons, List.sum_nil, List.sum_cons, Nat.zero_le, Option.toList_some, Option.toList_none, List.cons_append, List.nil_append, ne_eq, not_false_eq_true, not_true_eq_false, nI_1, nI_add, Value.category, Nat.reduceAdd, Nat.reduceMod, Nat.reduceLeDiff, Nat.reduceLT, Nat.reduceEqDiff, Nat.reducePow, Nat.le_refl, Nat.add_left_cancel_iff, Nat.add_eq_left, Nat.left_eq_add, Nat.add_zero, hb]
            have e : gs_rest K rc (m + 1) s = gs_b (gs_blk K) (fun _ => gs_rest K rc m) s := by
              conv => lhs; unfold gs_rest
              rw [if_neg hc, if_neg h78, if_pos hb]
            rw [e]
            refine c76_62 (by simp) A0 (by omega) (x_skipBlock (by omega) R) (fun v h1 q => ?_) (fun _ _ q => q.ber)
            obtain ⟨v, s1, w, ⟨rfl, na⟩, R1, mv, le, co⟩ := q
            refine gm_W.mono ?_ (fun r h' q => gx_P.bnd q w mv le co)
            simp only [r76_0, r76_1, r76_3, r76_6, r76_9, r76_9n, r76_10, r76_13, r76_13n, r76_14, r76_17, r76_20, r76_20n, r76_21, r76_26, r76_26a, r76_26n, r76_27, r76_27n, r76_28, r76_31, r76_31n, r76_32, r76_35, r76_36, r76_37, r76_38, r76_40, r76_43, r76_43n, r76_44, r76_44i, r76_45, r76_48, r76_49, r76_50, r76_53, r76_54, r76_58, r76_61, r76_61n, r76_65, r76_65a, r76_65n, r76_66, r76_69, r76_69n, r76_70, r76_71, r76_72, r76_76, r76_76a, r76_76n, r76_77, r76_80, r76_83, i32_10, reduceIte, gm_cmp1, gm_cmp3, gm_cmp4, gm_kd_sf, gm_ln_sf, gm_sf_1, gm_sf_2, gm_nw_1, gm_nw_2, gm_k_int, gm_k_ref, gm_k_null, gm_k_u, gm_k_long, and_true, true_and, true_or, or_true, or_false, false_or, and_self, or_self, if_true, if_false, List.map_nil, List.map_cons, List.sum_nil, List.sum_cons, Nat.zero_le, Option.toList_some, Option.toList_none, List.cons_append, List.nil_append, ne_eq, not_false_eq_true, not_true_eq_false, nI_1, nI_add, Value.category, Nat.reduceAdd, Nat.reduceMod, Nat.reduceLeDiff, Nat.reduceLT, Nat.reduceEqDiff, Nat.reducePow, Nat.le_refl, Nat.add_left_cancel_iff, Nat.add_eq_left, Nat.left_eq_add, Nat.add_zero]
            exact ih (k + 1) s1 h1 _ (by omega) R1 (fun a z => by have := hF a z; have := mv.1.1; omega)
          · simp only [r76_0, r76_1, r76_3, r76_6, r76_9, r76_9n, r76_10, r76_13, r76_13n, r76_14, r76_17, r76_20, r76_20n, r76_21, r76_26, r76_26a, r76_26n, r76_27, r76_27n, r76_28, r76_31, r76_31n, r76_32, r76_35, r76_36, r76_37, r76_38, r76_40, r76_43, r76_43n, r76_44, r76_44i, r76_45, r76_48, r76_49, r76_50, r76_53, r76_54, r76_58, r76_61, r76_61n, r76_65, r76_65a, r76_65n, r76_66, r76_69, r76_69n, r76_70, r76_71, r76_72, r76_76, r76_76a, r76_76n, r76_77, r76_80, r76_83, i32_10, reduceIte, gm_cmp1, gm_cmp3, gm_cmp4, gm_kd_sf, gm_ln_sf, gm_sf_1, gm_sf_2, gm_nw_1, gm_nw_2, gm_k_int, gm_k_ref, gm_k_null, gm_k_u, gm_k_long, and_true, true_and, true_or, or_true, or_false, false_or, and_self, or_self, if_true, if_false, List.map_nil, List.map_cons, List.sum_nil, List.sum_cons, Nat.zero_le, Option.toList_some, Option.toList_none, List.cons_append, List.nil_append, ne_eq, not_false_eq_true, not_true_eq_false, nI_1, nI_add, Value.category, Nat.reduceAdd, Nat.reduceMod, Nat.reduceLeDiff, Nat.reduceLT, Nat.reduceEqDiff, Nat.reducePow, Nat.le_refl, Nat.add_left_cancel_iff, Nat.add_eq_left, Nat.left_eq_add, Nat.add_zero, hb]
            have e : gs_rest K rc (m + 1) s = gs_b rc (fun _ => gs_rest K rc m) s := by
              conv => lhs; unfold gs_rest
              rw [if_neg hc, if_neg h78, if_neg hb]
            rw [e]
            refine c76_73 (by simp) A0 (by omega) (C (d - 1) h s F G (by omega) R hF) (fun v h1 q => ?_) (fun _ _ q => q.ber)
            obtain ⟨v, s1, w, rfl, R1, mv, le, co⟩ := q
            refine gm_W.mono ?_ (fun r h' q => gx_P.bnd q w mv le co)
            simp only [r76_0, r76_1, r76_3, r76_6, r76_9, r76_9n, r76_10, r76_13, r76_13n, r76_14, r76_17, r76_20, r76_20n, r76_21, r76_26, r76_26a, r76_26n, r76_27, r76_27n, r76_28, r76_31, r76_31n, r76_32, r76_35, r76_36, r76_37, r76_38, r76_40, r76_43, r76_43n, r76_44, r76_44i, r76_45, r76_48, r76_49, r76_50, r76_53, r76_54, r76_58, r76_61, r76_61n, r76_65, r76_65a, r76_65n, r76_66, r76_69, r76_69n, r76_70, r76_71, r76_72, r76_76, r76_76a, r76_76n, r76_77, r76_80, r76_83, i32_10, reduceIte, gm_cmp1, gm_cmp3, gm_cmp4, gm_kd_sf, gm_ln_sf, gm_sf_1, gm_sf_2, gm_nw_1, gm_nw_2, gm_k_int, gm_k_ref, gm_k_null, gm_k_u, gm_k_long, and_true, true_and, true_or, or_true, or_false, false_or, and_self, or_self, if_true, if_false, List.map_nil, List.map_cons, List.sum_nil, List.sum_cons, Nat.zero_le, Option.toList_some, Option.toList_none, List.cons_append, List.nil_append, ne_eq, not_false_eq_true, not_true_eq_false, nI_1, nI_add, Value.category, Nat.reduceAdd, Nat.reduceMod, Nat.reduceLeDiff, Nat.reduceLT, Nat.reduceEqDiff, Nat.reducePow, Nat.le_refl, Nat.add_left_cancel_iff, Nat.add_eq_left, Nat.left_eq_add, Nat.add_zero]
            exact ih (k + 1) s1 h1 _ (by omega) R1 (fun a z => by have := hF a z; have := mv.1.1; omega)
  show gm_W E d 76 0 [.ref x, .int (nI dp), gm_u, gm_u] [] h _
  simp only [r76_0, r76_1, r76_3, r76_6, r76_9, r76_9n, r76_10, r76_13, r76_13n, r76_14, r76_17, r76_20, r76_20n, r76_21, r76_26, r76_26a, r76_26n, r76_27, r76_27n, r76_28, r76_31, r76_31n, r76_32, r76_35, r76_36, r76_37, r76_38, r76_40, r76_43, r76_43n, r76_44, r76_44i, r76_45, r76_48, r76_49, r76_50, r76_53, r76_54, r76_58, r76_61, r76_61n, r76_65, r76_65a, r76_65n, r76_66, r76_69, r76_69n, r76_70, r76_71, r76_72, r76_76, r76_76a, r76_76n, r76_77, r76_80, r76_83, i32_10, reduceIte, gm_cmp1, gm_cmp3, gm_cmp4, gm_kd_sf, gm_ln_sf, gm_sf_1, gm_sf_2, gm_nw_1, gm_nw_2, gm_k_int, gm_k_ref, gm_k_null, gm_k_u, gm_k_long, and_true, true_and, true_or, or_true, or_false, false_or, and_self, or_self, if_true, if_false, List.map_nil, List.map_cons, List.sum_nil, List.sum_cons, Nat.zero_le, Option.toList_some, Option.toList_none, List.cons_append, List.nil_append, ne_eq, not_false_eq_true, not_true_eq_false, nI_1, nI_add, Value.category, Nat.reduceAdd, Nat.reduceMod, Nat.reduceLeDiff, Nat.reduceLT, Nat.reduceEqDiff, Nat.reducePow, Nat.le_refl, Nat.add_left_cancel_iff, Nat.add_eq_left, Nat.left_eq_add, Nat.add_zero]
  exact loop 701 0 s h gm_u (by omega) R hF
theorem i2c_b : ∀ b, b < 256 → ((nI b).toUInt32 % 65536).toInt32 = nI b := by decide +kernel
theorem gs_ty_of (b : Nat) : (gs_types.findIdx? (· == nI b) = none ∧ gs_tyi b = -1) ∨ ∃ t, t < 8 ∧ gs_types.findIdx? (· == nI b) = some t ∧ gs_tyi b = nI t := by
  unfold gs_tyi
  cases e : gs_types.findIdx? (· == nI b) with
  | none => exact Or.inl ⟨rfl, rfl⟩
  | some t =>
    refine Or.inr ⟨t, ?_, rfl, rfl⟩
    rw [List.findIdx?_eq_some_iff_getElem] at e
    exact e.1
end Y2
