/-! THE CLASS, 10: flags, the local class of a descriptor; what a read one deeper must do. -/
section Y1
variable {E : Nat → Value} {d x : Nat} {h : gm_H} {ca : Nat → Nat} {K : gs_K} {F G : Nat → Prop} {s : gs_S}
/-- cells that differ at a alone -/
theorem gx_d0.sf {a u w k : Nat} {l : gs_L} {v : Value} (D : gx_d0 h a u w l) (hk : 6 < k) (hu : u ≠ a) (hw : w ≠ a) : gx_d0 (gm_sf h a k v) a u w l := by
  unfold gx_d0 at D ⊢
  simp only [gm_kd_sf, gm_ln_sf, gm_fv_sfj (show 0 ≠ k by omega), gm_fv_sfj (show 1 ≠ k by omega), gm_fv_sfj (show 2 ≠ k by omega), gm_fv_sfj (show 3 ≠ k by omega), gm_fv_sfj (show 4 ≠ k by omega), gm_fv_sfj (show 5 ≠ k by omega), gm_fv_sfj (show 6 ≠ k by omega), gm_fv_sfa hu, gm_fv_sfa hw]
  exact D
theorem gx_d0.tr {h' : gm_H} {a u w : Nat} {l : gs_L} (D : gx_d0 h a u w l) (ea : gm_rd h' a = gm_rd h a) (eu : gm_rd h' u = gm_rd h u) (ew : gm_rd h' w = gm_rd h w) : gx_d0 h' a u w l := by
  unfold gx_d0 at D ⊢
  simp only [gv_kd ea, gv_fv ea, gv_kd eu, gv_ln eu, gv_fv eu, gv_kd ew, gv_ln ew, gv_fv ew]
  exact D
/-- the class that a descriptor's name tells, kept in its field 9; F a: nobody else has it -/
theorem x_matchLocalClass {a u w : Nat} {l : gs_L} (hd : 3 ≤ d) (R : gx_R E h x ca K F s) (D : gx_d0 h a u w l) (hF : F a) (hx : x + 6 < a) (hu : u ≠ a) (hw : w ≠ a) (hn : gs_nf l + gs_nl l ≤ gs_n K) (hG : G a) :
    gm_Ca E d 101 [.ref x, .ref a] h (gx_P E h x ca K F G s (fun _ h' v => v = none ∧ h' = gm_sf h a 9 (gx_ow ca (gs_find K (gs_nf l) (gs_nl l))))
      (gs_mch K l s)) := by
  unfold gs_mch
  show gm_W E d 101 0 [.ref x, .ref a] [] h _
  have D' := D
  obtain ⟨d1, d2, d3, d4, d5, d6, d7, d8, d9, d10, d11, d12, d13, d14⟩ := D'
  have A0 := R.1.1
  simp only [r101_0, r101_0n, r101_1, r101_5, r101_8, r101_8n, r101_9, r101_14, r101_14a, r101_14n, r101_15, r101_15n, r101_16, r101_16n, r101_17, r101_17n, r101_18, r101_18n, r101_19, r101_22, r101_22n, r101_23, r101_26, r101_28, r101_36, r101_36n, r101_39, r101_39n, r101_40, r101_43n, r101_43, r101_46, r101_46n, r101_47, r101_47n, r101_48, r101_54, r101_57, r101_57n, r101_58, r101_63, r101_63a, r101_63n, r101_64, i32_10, reduceIte, gm_cmp1, gm_cmp3, gm_cmp4, gm_kd_sf, gm_ln_sf, gm_sf_1, gm_sf_2, gm_nw_1, gm_nw_2, gm_k_int, gm_k_ref, gm_k_null, gm_k_u, gm_k_long, and_true, true_and, true_or, or_true, or_false, false_or, and_self, or_self, if_true, if_false, List.map_nil, List.map_cons, List.sum_nil, List.sum_cons, Nat.zero_le, Option.toList_some, Option.toList_none, List.cons_append, List.nil_append, ne_eq, not_false_eq_true, not_true_eq_false, nI_1, nI_add, Value.category, Nat.reduceAdd, Nat.reduceMod, Nat.reduceLeDiff, Nat.reduceLT, Nat.reduceEqDiff, Nat.reducePow, Nat.le_refl, Nat.add_left_cancel_iff, Nat.add_eq_left, Nat.left_eq_add, Nat.add_zero]
  refine c101_2 (by simp) d1 (by omega) (x_has d1 d5) (gx_kn ?_) gx_kx
  by_cases h4 : gs_fl l &&& 4 = 0
  · have h4' : ¬ gs_fl l &&& 4 ≠ 0 := fun z => z h4
    rw [if_neg h4']
    simp only [r101_0, r101_0n, r101_1, r101_5, r101_8, r101_8n, r101_9, r101_14, r101_14a, r101_14n, r101_15, r101_15n, r101_16, r101_16n, r101_17, r101_17n, r101_18, r101_18n, r101_19, r101_22, r101_22n, r101_23, r101_26, r101_28, r101_36, r101_36n, r101_39, r101_39n, r101_40, r101_43n, r101_43, r101_46, r101_46n, r101_47, r101_47n, r101_48, r101_54, r101_57, r101_57n, r101_58, r101_63, r101_63a, r101_63n, r101_64, i32_10, reduceIte, gm_cmp1, gm_cmp3, gm_cmp4, gm_kd_sf, gm_ln_sf, gm_sf_1, gm_sf_2, gm_nw_1, gm_nw_2, gm_k_int, gm_k_ref, gm_k_null, gm_k_u, gm_k_long, and_true, true_and, true_or, or_true, or_false, false_or, and_self, or_self, if_true, if_false, List.map_nil, List.map_cons, List.sum_nil, List.sum_cons, Nat.zero_le, Option.toList_some, Option.toList_none, List.cons_append, List.nil_append, ne_eq, not_false_eq_true, not_true_eq_false, nI_1, nI_add, Value.category, Nat.reduceAdd, Nat.reduceMod, Nat.reduceLeDiff, Nat.reduceLT, Nat.reduceEqDiff, Nat.reducePow, Nat.le_refl, Nat.add_left_cancel_iff, Nat.add_eq_left, Nat.left_eq_add, Nat.add_zero, h4, d1, d2, d3]
    refine c101_30 (by simp [Value.category]) A0 (by omega) (x_letterFrom R hn) (gx_kn ?_) gx_kx
    simp only [i32_10, reduceIte, gm_cmp1, gm_cmp3, gm_cmp4, gm_kd_sf, gm_ln_sf, gm_sf_1, gm_sf_2, gm_nw_1, gm_nw_2, gm_k_int, gm_k_ref, gm_k_null, gm_k_u, gm_k_long, and_true, true_and, true_or, or_true, or_false, false_or, and_self, or_self, if_true, if_false, List.map_nil, List.map_cons, List.sum_nil, List.sum_cons, Nat.zero_le, Option.toList_some, Option.toList_none, List.cons_append, List.nil_append, ne_eq, not_false_eq_true, not_true_eq_false, nI_1, nI_add, Value.category, Nat.reduceAdd, Nat.reduceMod, Nat.reduceLeDiff, Nat.reduceLT, Nat.reduceEqDiff, Nat.reducePow, Nat.le_refl, Nat.add_left_cancel_iff, Nat.add_eq_left, Nat.left_eq_add, Nat.add_zero]
    refine c101_33 (by simp [Value.category]) A0 (by omega) (x_classNumbered R) (gx_kn ?_) gx_kx
    have ef : gs_cn K (gs_let K (gs_nf l) (gs_nl l) 65 6) = gs_find K (gs_nf l) (gs_nl l) := rfl
    rw [ef]
    have la : gm_ln h a = 10 := gm_kd_ln d1 (by decide)
    generalize hf : gs_find K (gs_nf l) (gs_nl l) = fo
    have mv : gx_mv h (gm_sf h a 9 (gx_ow ca fo)) x G s := gx_mv.oth (Or.inr hx) (Or.inr hG)
    have co : gx_co h (gm_sf h a 9 (gx_ow ca fo)) s s := ⟨by simp only [gm_sf_1]; exact Nat.le_refl _, by simp only [gm_sf_2]; exact Nat.le_refl _⟩
    have f9 : gm_fv (gm_sf h a 9 (gx_ow ca fo)) a 9 = gx_ow ca fo := gm_fv_sf (by rw [la]; decide)
    have R1 : gx_R E (gm_sf h a 9 (gx_ow ca fo)) x ca K F s := R.out hF hx
    cases fo with
    | none =>
      have f9 : gm_fv (gm_sf h a 9 .null) a 9 = .null := f9
      simp only [r101_0, r101_0n, r101_1, r101_5, r101_8, r101_8n, r101_9, r101_14, r101_14a, r101_14n, r101_15, r101_15n, r101_16, r101_16n, r101_17, r101_17n, r101_18, r101_18n, r101_19, r101_22, r101_22n, r101_23, r101_26, r101_28, r101_36, r101_36n, r101_39, r101_39n, r101_40, r101_43n, r101_43, r101_46, r101_46n, r101_47, r101_47n, r101_48, r101_54, r101_57, r101_57n, r101_58, r101_63, r101_63a, r101_63n, r101_64, i32_10, reduceIte, gm_cmp1, gm_cmp3, gm_cmp4, gm_kd_sf, gm_ln_sf, gm_sf_1, gm_sf_2, gm_nw_1, gm_nw_2, gm_k_int, gm_k_ref, gm_k_null, gm_k_u, gm_k_long, and_true, true_and, true_or, or_true, or_false, false_or, and_self, or_self, if_true, if_false, List.map_nil, List.map_cons, List.sum_nil, List.sum_cons, Nat.zero_le, Option.toList_some, Option.toList_none, List.cons_append, List.nil_append, ne_eq, not_false_eq_true, not_true_eq_false, nI_1, nI_add, Value.category, Nat.reduceAdd, Nat.reduceMod, Nat.reduceLeDiff, Nat.reduceLT, Nat.reduceEqDiff, Nat.reducePow, Nat.le_refl, Nat.add_left_cancel_iff, Nat.add_eq_left, Nat.left_eq_add, Nat.add_zero, d1, gx_ow, f9, Option.bind_none, Option.any_none, Bool.false_eq_true]
      exact ⟨(), s, rfl, ⟨rfl, rfl⟩, R1, mv, gx_le.refl, co⟩
    | some c =>
      have f9 : gm_fv (gm_sf h a 9 (.ref (ca c))) a 9 = .ref (ca c) := f9
      have hs : (gs_cls K c).isSome = true := by
        rw [← ef] at hf
        unfold gs_cn at hf
        split at hf
        · cases hf
        · split at hf
          · rename_i z; cases hf; exact z
          · cases hf
      obtain ⟨C, hC⟩ := Option.isSome_iff_exists.mp hs
      obtain ⟨hc6, -, q⟩ := R1.2.2.1.at hC
      have D1 : gx_d0 (gm_sf h a 9 (gx_ow ca (some c))) a u w l := D.sf (by decide) hu hw
      have k1 : gm_kd (gm_sf h a 9 (.ref (ca c))) a = 1 := by rw [gm_kd_sf]; exact d1
      simp only [r101_0, r101_0n, r101_1, r101_5, r101_8, r101_8n, r101_9, r101_14, r101_14a, r101_14n, r101_15, r101_15n, r101_16, r101_16n, r101_17, r101_17n, r101_18, r101_18n, r101_19, r101_22, r101_22n, r101_23, r101_26, r101_28, r101_36, r101_36n, r101_39, r101_39n, r101_40, r101_43n, r101_43, r101_46, r101_46n, r101_47, r101_47n, r101_48, r101_54, r101_57, r101_57n, r101_58, r101_63, r101_63a, r101_63n, r101_64, i32_10, reduceIte, gm_cmp1, gm_cmp3, gm_cmp4, gm_kd_sf, gm_ln_sf, gm_sf_1, gm_sf_2, gm_nw_1, gm_nw_2, gm_k_int, gm_k_ref, gm_k_null, gm_k_u, gm_k_long, and_true, true_and, true_or, or_true, or_false, false_or, and_self, or_self, if_true, if_false, List.map_nil, List.map_cons, List.sum_nil, List.sum_cons, Nat.zero_le, Option.toList_some, Option.toList_none, List.cons_append, List.nil_append, ne_eq, not_false_eq_true, not_true_eq_false, nI_1, nI_add, Value.category, Nat.reduceAdd, Nat.reduceMod, Nat.reduceLeDiff, Nat.reduceLT, Nat.reduceEqDiff, Nat.reducePow, Nat.le_refl, Nat.add_left_cancel_iff, Nat.add_eq_left, Nat.left_eq_add, Nat.add_zero, d1, gx_ow, f9, Option.bind_some, hC, Option.any_some]
      refine c101_51 (by simp) (by simp [gm_en1]) k1 (by omega) (x_fits (by omega) D1 q) (gx_kn ?_) gx_kx
      by_cases hfit : gs_fits l C = true
      · simp only [r101_0, r101_0n, r101_1, r101_5, r101_8, r101_8n, r101_9, r101_14, r101_14a, r101_14n, r101_15, r101_15n, r101_16, r101_16n, r101_17, r101_17n, r101_18, r101_18n, r101_19, r101_22, r101_22n, r101_23, r101_26, r101_28, r101_36, r101_36n, r101_39, r101_39n, r101_40, r101_43n, r101_43, r101_46, r101_46n, r101_47, r101_47n, r101_48, r101_54, r101_57, r101_57n, r101_58, r101_63, r101_63a, r101_63n, r101_64, i32_10, reduceIte, gm_cmp1, gm_cmp3, gm_cmp4, gm_kd_sf, gm_ln_sf, gm_sf_1, gm_sf_2, gm_nw_1, gm_nw_2, gm_k_int, gm_k_ref, gm_k_null, gm_k_u, gm_k_long, and_true, true_and, true_or, or_true, or_false, false_or, and_self, or_self, if_true, if_false, List.map_nil, List.map_cons, List.sum_nil, List.sum_cons, Nat.zero_le, Option.toList_some, Option.toList_none, List.cons_append, List.nil_append, ne_eq, not_false_eq_true, not_true_eq_false, nI_1, nI_add, Value.category, Nat.reduceAdd, Nat.reduceMod, Nat.reduceLeDiff, Nat.reduceLT, Nat.reduceEqDiff, Nat.reducePow, Nat.le_refl, Nat.add_left_cancel_iff, Nat.add_eq_left, Nat.left_eq_add, Nat.add_zero, hfit, Bool.not_true, Bool.false_eq_true]
        exact ⟨(), s, rfl, ⟨rfl, rfl⟩, R1, mv, gx_le.refl, co⟩
      · have hfit2 : gs_fits l C = false := by simpa using hfit
        simp only [r101_0, r101_0n, r101_1, r101_5, r101_8, r101_8n, r101_9, r101_14, r101_14a, r101_14n, r101_15, r101_15n, r101_16, r101_16n, r101_17, r101_17n, r101_18, r101_18n, r101_19, r101_22, r101_22n, r101_23, r101_26, r101_28, r101_36, r101_36n, r101_39, r101_39n, r101_40, r101_43n, r101_43, r101_46, r101_46n, r101_47, r101_47n, r101_48, r101_54, r101_57, r101_57n, r101_58, r101_63, r101_63a, r101_63n, r101_64, i32_10, reduceIte, gm_cmp1, gm_cmp3, gm_cmp4, gm_kd_sf, gm_ln_sf, gm_sf_1, gm_sf_2, gm_nw_1, gm_nw_2, gm_k_int, gm_k_ref, gm_k_null, gm_k_u, gm_k_long, and_true, true_and, true_or, or_true, or_false, false_or, and_self, or_self, if_true, if_false, List.map_nil, List.map_cons, List.sum_nil, List.sum_cons, Nat.zero_le, Option.toList_some, Option.toList_none, List.cons_append, List.nil_append, ne_eq, not_false_eq_true, not_true_eq_false, nI_1, nI_add, Value.category, Nat.reduceAdd, Nat.reduceMod, Nat.reduceLeDiff, Nat.reduceLT, Nat.reduceEqDiff, Nat.reducePow, Nat.le_refl, Nat.add_left_cancel_iff, Nat.add_eq_left, Nat.left_eq_add, Nat.add_zero, hfit2, Bool.not_false, Bool.false_eq_true]
        exact c101_60 (by simp) R1.1.1 (by omega) (x_fail (G := G) (α := Unit) (val := fun _ h' v => v = none ∧ h' = gm_sf h a 9 (gx_ow ca (gs_find K (gs_nf l) (gs_nl l)))) R1) gx_fn (fun _ _ q => q.reb mv gx_le.refl co (fun _ z => Or.inr z))
  · rw [if_pos h4]
    simp only [r101_0, r101_0n, r101_1, r101_5, r101_8, r101_8n, r101_9, r101_14, r101_14a, r101_14n, r101_15, r101_15n, r101_16, r101_16n, r101_17, r101_17n, r101_18, r101_18n, r101_19, r101_22, r101_22n, r101_23, r101_26, r101_28, r101_36, r101_36n, r101_39, r101_39n, r101_40, r101_43n, r101_43, r101_46, r101_46n, r101_47, r101_47n, r101_48, r101_54, r101_57, r101_57n, r101_58, r101_63, r101_63a, r101_63n, r101_64, i32_10, reduceIte, gm_cmp1, gm_cmp3, gm_cmp4, gm_kd_sf, gm_ln_sf, gm_sf_1, gm_sf_2, gm_nw_1, gm_nw_2, gm_k_int, gm_k_ref, gm_k_null, gm_k_u, gm_k_long, and_true, true_and, true_or, or_true, or_false, false_or, and_self, or_self, if_true, if_false, List.map_nil, List.map_cons, List.sum_nil, List.sum_cons, Nat.zero_le, Option.toList_some, Option.toList_none, List.cons_append, List.nil_append, ne_eq, not_false_eq_true, not_true_eq_false, nI_1, nI_add, Value.category, Nat.reduceAdd, Nat.reduceMod, Nat.reduceLeDiff, Nat.reduceLT, Nat.reduceEqDiff, Nat.reducePow, Nat.le_refl, Nat.add_left_cancel_iff, Nat.add_eq_left, Nat.left_eq_add, Nat.add_zero, h4]
    exact c101_11 (by simp) A0 (by omega) (x_fail R) gx_fn (fun _ _ q => q)
theorem gs_u1_ok {t : Int32} {s1 : gs_S} (w : gs_u1 K s = .ok (t, s1)) : (∃ b, b < 256 ∧ t = nI b) ∧ s1 = gs_p (gs_pl s + 1) s ∧ (gs_pl s ≤ gs_n K → gs_pl s + 1 ≤ gs_n K) := by
  unfold gs_u1 at w
  cases e : gs_nxt K 1 s with
  | error f => rw [gs_b_er e] at w; cases w
  | ok q =>
    obtain ⟨v, s2⟩ := q
    rw [gs_b_ok e] at w
    cases w
    obtain ⟨e1, e2⟩ := gs_nxt_eq e
    refine ⟨⟨gs_ubn K (gs_pl s), gs_ubn_lt, by rw [e1, gs_num1]⟩, e2, fun z => ?_⟩
    rcases gs_nxt_ok e with q | q <;> omega
/-- the flags, kept in field 3 -/
theorem x_readFlags {a : Nat} {id : Int64} (hd : 3 ≤ d) (R : gx_R E h x ca K F s) (ka : gm_kd h a = 1) (fi : gm_fv h a 2 = .long id) (hF : F a) (hx : x + 6 < a) (hah : a < h.1) (hG : G a) :
    gm_Ca E d 98 [.ref x, .ref a] h (gx_P E h x ca K F G s (fun fl h' v => v = none ∧ gx_nal h h' ∧ gm_rd h' a = gm_rd (gm_sf h a 3 (.int fl)) a)
      (gs_flg K id s)) := by
  unfold gs_flg
  show gm_W E d 98 0 [.ref x, .ref a] [] h _
  simp only [r98_0, r98_0n, r98_1, r98_1n, r98_5, r98_8, r98_8n, r98_9, r98_13, r98_16, r98_16n, r98_17, r98_21, r98_24, r98_24n, r98_28, r98_31, r98_31n, r98_32, r98_35, r98_36, r98_37, r98_40, r98_40n, r98_41, r98_46, r98_46a, r98_46n, r98_47, i32_10, reduceIte, gm_cmp1, gm_cmp3, gm_cmp4, gm_kd_sf, gm_ln_sf, gm_sf_1, gm_sf_2, gm_nw_1, gm_nw_2, gm_k_int, gm_k_ref, gm_k_null, gm_k_u, gm_k_long, and_true, true_and, true_or, or_true, or_false, false_or, and_self, or_self, if_true, if_false, List.map_nil, List.map_cons, List.sum_nil, List.sum_cons, Nat.zero_le, Option.toList_some, Option.toList_none, List.cons_append, List.nil_append, ne_eq, not_false_eq_true, not_true_eq_false, nI_1, nI_add, Value.category, Nat.reduceAdd, Nat.reduceMod, Nat.reduceLeDiff, Nat.reduceLT, Nat.reduceEqDiff, Nat.reducePow, Nat.le_refl, Nat.add_left_cancel_iff, Nat.add_eq_left, Nat.left_eq_add, Nat.add_zero]
  refine c98_2 (by simp [Value.category]) R.1.1 (by omega) (x_nextByte (G := fun _ => False) (by omega) R) (fun v h1 q => ?_) (fun _ _ q => (q.wk (fun _ z => z.elim)).ber)
  obtain ⟨fl, s1, e, ⟨rfl, na⟩, R1, mv, le, co⟩ := q
  have era : gm_rd h1 a = gm_rd h a := mv.1.2 a ⟨Or.inr hx, hah, fun z => z⟩
  have k1 : gm_kd h1 a = 1 := (gv_kd era).trans ka
  have f2 : gm_fv h1 a 2 = .long id := (gv_fv era).trans fi
  have la : gm_ln h1 a = 10 := gm_kd_ln k1 (by decide)
  rw [gs_b_ok e]
  obtain ⟨res, hres⟩ : ∃ res : Except Int32 (Int32 × gs_S), res = (if (fl &&& 2 ≠ 0 ∧ fl &&& 4 ≠ 0) ∨ (fl &&& 16 ≠ 0 ∧ id ≠ 0) then .error (-5) else .ok (fl, s1)) := ⟨_, rfl⟩
  show gm_W E d 98 5 _ _ _ (gx_P E h x ca K F G s _ (if (fl &&& 2 ≠ 0 ∧ fl &&& 4 ≠ 0) ∨ (fl &&& 16 ≠ 0 ∧ id ≠ 0) then .error (-5) else .ok (fl, s1)))
  rw [← hres]
  have mv' : gx_mv h h1 x G s := mv.wk (fun _ z => z.elim)
  simp only [r98_0, r98_0n, r98_1, r98_1n, r98_5, r98_8, r98_8n, r98_9, r98_13, r98_16, r98_16n, r98_17, r98_21, r98_24, r98_24n, r98_28, r98_31, r98_31n, r98_32, r98_35, r98_36, r98_37, r98_40, r98_40n, r98_41, r98_46, r98_46a, r98_46n, r98_47, i32_10, reduceIte, gm_cmp1, gm_cmp3, gm_cmp4, gm_kd_sf, gm_ln_sf, gm_sf_1, gm_sf_2, gm_nw_1, gm_nw_2, gm_k_int, gm_k_ref, gm_k_null, gm_k_u, gm_k_long, and_true, true_and, true_or, or_true, or_false, false_or, and_self, or_self, if_true, if_false, List.map_nil, List.map_cons, List.sum_nil, List.sum_cons, Nat.zero_le, Option.toList_some, Option.toList_none, List.cons_append, List.nil_append, ne_eq, not_false_eq_true, not_true_eq_false, nI_1, nI_add, Value.category, Nat.reduceAdd, Nat.reduceMod, Nat.reduceLeDiff, Nat.reduceLT, Nat.reduceEqDiff, Nat.reducePow, Nat.le_refl, Nat.add_left_cancel_iff, Nat.add_eq_left, Nat.left_eq_add, Nat.add_zero, k1]
  obtain ⟨h2, eh2⟩ : ∃ h2, h2 = gm_sf h1 a 3 (.int fl) := ⟨_, rfl⟩
  rw [← eh2]
  have R2 : gx_R E h2 x ca K F s1 := by rw [eh2]; exact R1.out hF hx
  have k2 : gm_kd h2 a = 1 := by rw [eh2, gm_kd_sf]; exact k1
  have f22 : gm_fv h2 a 2 = .long id := by rw [eh2, gm_fv_sfj (by decide)]; exact f2
  have f23 : gm_fv h2 a 3 = .int fl := by rw [eh2]; exact gm_fv_sf (by rw [la]; decide)
  have na2 : gx_nal h h2 := by rw [eh2]; exact na.sf
  have mv2 : gx_mv h h2 x G s := mv'.trans (G1 := G) (s1 := s1) (by rw [eh2]; exact gx_mv.oth (Or.inr hx) (Or.inr hG)) le (fun _ z => Or.inr z)
  have co2 : gx_co h h2 s s1 := by
    have := co.1; have := co.2; have := na.1; have := na.2; have := na2.1; have := na2.2
    unfold gx_co
    omega
  have rd2 : gm_rd h2 a = gm_rd (gm_sf h a 3 (.int fl)) a := by rw [eh2, gm_rd_sf, gm_rd_sf, if_pos rfl, if_pos rfl, era]
  clear eh2
  have bad : gm_W E d 98 40 [.ref x, .ref a] [] h2 (gx_P E h x ca K F G s (fun fl h' v => v = none ∧ gx_nal h h' ∧ gm_rd h' a = gm_rd (gm_sf h a 3 (.int fl)) a) (.error (-5) : Except Int32 (Int32 × gs_S))) := by
    simp only [r98_0, r98_0n, r98_1, r98_1n, r98_5, r98_8, r98_8n, r98_9, r98_13, r98_16, r98_16n, r98_17, r98_21, r98_24, r98_24n, r98_28, r98_31, r98_31n, r98_32, r98_35, r98_36, r98_37, r98_40, r98_40n, r98_41, r98_46, r98_46a, r98_46n, r98_47, i32_10, reduceIte, gm_cmp1, gm_cmp3, gm_cmp4, gm_kd_sf, gm_ln_sf, gm_sf_1, gm_sf_2, gm_nw_1, gm_nw_2, gm_k_int, gm_k_ref, gm_k_null, gm_k_u, gm_k_long, and_true, true_and, true_or, or_true, or_false, false_or, and_self, or_self, if_true, if_false, List.map_nil, List.map_cons, List.sum_nil, List.sum_cons, Nat.zero_le, Option.toList_some, Option.toList_none, List.cons_append, List.nil_append, ne_eq, not_false_eq_true, not_true_eq_false, nI_1, nI_add, Value.category, Nat.reduceAdd, Nat.reduceMod, Nat.reduceLeDiff, Nat.reduceLT, Nat.reduceEqDiff, Nat.reducePow, Nat.le_refl, Nat.add_left_cancel_iff, Nat.add_eq_left, Nat.left_eq_add, Nat.add_zero]
    exact c98_43 (by simp) R2.1.1 (by omega) (x_fail (G := G) (val := fun fl h' v => v = none ∧ gx_nal h h' ∧ gm_rd h' a = gm_rd (gm_sf h a 3 (.int fl)) a) R2) gx_fn (fun _ _ q => q.reb mv2 le co2 (fun _ z => Or.inr z))
  have good : gm_W E d 98 47 [.ref x, .ref a] [] h2 (gx_P E h x ca K F G s (fun fl h' v => v = none ∧ gx_nal h h' ∧ gm_rd h' a = gm_rd (gm_sf h a 3 (.int fl)) a) (.ok (fl, s1) : Except Int32 (Int32 × gs_S))) := by
    simp only [r98_0, r98_0n, r98_1, r98_1n, r98_5, r98_8, r98_8n, r98_9, r98_13, r98_16, r98_16n, r98_17, r98_21, r98_24, r98_24n, r98_28, r98_31, r98_31n, r98_32, r98_35, r98_36, r98_37, r98_40, r98_40n, r98_41, r98_46, r98_46a, r98_46n, r98_47, i32_10, reduceIte, gm_cmp1, gm_cmp3, gm_cmp4, gm_kd_sf, gm_ln_sf, gm_sf_1, gm_sf_2, gm_nw_1, gm_nw_2, gm_k_int, gm_k_ref, gm_k_null, gm_k_u, gm_k_long, and_true, true_and, true_or, or_true, or_false, false_or, and_self, or_self, if_true, if_false, List.map_nil, List.map_cons, List.sum_nil, List.sum_cons, Nat.zero_le, Option.toList_some, Option.toList_none, List.cons_append, List.nil_append, ne_eq, not_false_eq_true, not_true_eq_false, nI_1, nI_add, Value.category, Nat.reduceAdd, Nat.reduceMod, Nat.reduceLeDiff, Nat.reduceLT, Nat.reduceEqDiff, Nat.reducePow, Nat.le_refl, Nat.add_left_cancel_iff, Nat.add_eq_left, Nat.left_eq_add, Nat.add_zero]
    exact ⟨fl, s1, rfl, ⟨rfl, na2, rd2⟩, R2, mv2, le, co2⟩
  have third : (¬ (fl &&& 2 ≠ 0 ∧ fl &&& 4 ≠ 0)) → gm_W E d 98 24 [.ref x, .ref a] [] h2 (gx_P E h x ca K F G s (fun fl h' v => v = none ∧ gx_nal h h' ∧ gm_rd h' a = gm_rd (gm_sf h a 3 (.int fl)) a) res) := by
    intro hn
    simp only [r98_0, r98_0n, r98_1, r98_1n, r98_5, r98_8, r98_8n, r98_9, r98_13, r98_16, r98_16n, r98_17, r98_21, r98_24, r98_24n, r98_28, r98_31, r98_31n, r98_32, r98_35, r98_36, r98_37, r98_41, r98_46, r98_46a, r98_46n, i32_10, reduceIte, gm_cmp1, gm_cmp3, gm_cmp4, gm_kd_sf, gm_ln_sf, gm_sf_1, gm_sf_2, gm_nw_1, gm_nw_2, gm_k_int, gm_k_ref, gm_k_null, gm_k_u, gm_k_long, and_true, true_and, true_or, or_true, or_false, false_or, and_self, or_self, if_true, if_false, List.map_nil, List.map_cons, List.sum_nil, List.sum_cons, Nat.zero_le, Option.toList_some, Option.toList_none, List.cons_append, List.nil_append, ne_eq, not_false_eq_true, not_true_eq_false, nI_1, nI_add, Value.category, Nat.reduceAdd, Nat.reduceMod, Nat.reduceLeDiff, Nat.reduceLT, Nat.reduceEqDiff, Nat.reducePow, Nat.le_refl, Nat.add_left_cancel_iff, Nat.add_eq_left, Nat.left_eq_add, Nat.add_zero]
    refine c98_25 (by simp) k2 (by omega) (x_isConstant (by omega) k2 f23) (gx_kn ?_) gx_kx
    by_cases h16 : fl &&& 16 = 0
    · have : ¬ ((fl &&& 2 ≠ 0 ∧ fl &&& 4 ≠ 0) ∨ (fl &&& 16 ≠ 0 ∧ id ≠ 0)) := fun z => z.elim hn (fun y => y.1 h16)
      rw [if_neg this] at hres
      rw [hres]
      simp only [r98_0, r98_0n, r98_1, r98_1n, r98_5, r98_8, r98_8n, r98_9, r98_13, r98_16, r98_16n, r98_17, r98_21, r98_24, r98_24n, r98_28, r98_31, r98_31n, r98_32, r98_35, r98_36, r98_37, r98_41, r98_46, r98_46a, r98_46n, i32_10, reduceIte, gm_cmp1, gm_cmp3, gm_cmp4, gm_kd_sf, gm_ln_sf, gm_sf_1, gm_sf_2, gm_nw_1, gm_nw_2, gm_k_int, gm_k_ref, gm_k_null, gm_k_u, gm_k_long, and_true, true_and, true_or, or_true, or_false, false_or, and_self, or_self, if_true, if_false, List.map_nil, List.map_cons, List.sum_nil, List.sum_cons, Nat.zero_le, Option.toList_some, Option.toList_none, List.cons_append, List.nil_append, ne_eq, not_false_eq_true, not_true_eq_false, nI_1, nI_add, Value.category, Nat.reduceAdd, Nat.reduceMod, Nat.reduceLeDiff, Nat.reduceLT, Nat.reduceEqDiff, Nat.reducePow, Nat.le_refl, Nat.add_left_cancel_iff, Nat.add_eq_left, Nat.left_eq_add, Nat.add_zero, h16]
      exact good
    · by_cases hid : id = 0
      · have : ¬ ((fl &&& 2 ≠ 0 ∧ fl &&& 4 ≠ 0) ∨ (fl &&& 16 ≠ 0 ∧ id ≠ 0)) := fun z => z.elim hn (fun y => y.2 hid)
        rw [if_neg this] at hres
        rw [hres]
        simp only [r98_0, r98_0n, r98_1, r98_1n, r98_5, r98_8, r98_8n, r98_9, r98_13, r98_16, r98_16n, r98_17, r98_21, r98_24, r98_24n, r98_28, r98_31, r98_31n, r98_32, r98_35, r98_36, r98_37, r98_41, r98_46, r98_46a, r98_46n, i32_10, reduceIte, gm_cmp1, gm_cmp3, gm_cmp4, gm_kd_sf, gm_ln_sf, gm_sf_1, gm_sf_2, gm_nw_1, gm_nw_2, gm_k_int, gm_k_ref, gm_k_null, gm_k_u, gm_k_long, and_true, true_and, true_or, or_true, or_false, false_or, and_self, or_self, if_true, if_false, List.map_nil, List.map_cons, List.sum_nil, List.sum_cons, Nat.zero_le, Option.toList_some, Option.toList_none, List.cons_append, List.nil_append, ne_eq, not_false_eq_true, not_true_eq_false, nI_1, nI_add, Value.category, Nat.reduceAdd, Nat.reduceMod, Nat.reduceLeDiff, Nat.reduceLT, Nat.reduceEqDiff, Nat.reducePow, Nat.le_refl, Nat.add_left_cancel_iff, Nat.add_eq_left, Nat.left_eq_add, Nat.add_zero, h16, k2, f22, gx_cmp_eq, hid]
        exact good
      · rw [if_pos (Or.inr ⟨h16, hid⟩)] at hres
        rw [hres]
        simp only [r98_0, r98_0n, r98_1, r98_1n, r98_5, r98_8, r98_8n, r98_9, r98_13, r98_16, r98_16n, r98_17, r98_21, r98_24, r98_24n, r98_28, r98_31, r98_31n, r98_32, r98_35, r98_36, r98_37, r98_41, r98_46, r98_46a, r98_46n, i32_10, reduceIte, gm_cmp1, gm_cmp3, gm_cmp4, gm_kd_sf, gm_ln_sf, gm_sf_1, gm_sf_2, gm_nw_1, gm_nw_2, gm_k_int, gm_k_ref, gm_k_null, gm_k_u, gm_k_long, and_true, true_and, true_or, or_true, or_false, false_or, and_self, or_self, if_true, if_false, List.map_nil, List.map_cons, List.sum_nil, List.sum_cons, Nat.zero_le, Option.toList_some, Option.toList_none, List.cons_append, List.nil_append, ne_eq, not_false_eq_true, not_true_eq_false, nI_1, nI_add, Value.category, Nat.reduceAdd, Nat.reduceMod, Nat.reduceLeDiff, Nat.reduceLT, Nat.reduceEqDiff, Nat.reducePow, Nat.le_refl, Nat.add_left_cancel_iff, Nat.add_eq_left, Nat.left_eq_add, Nat.add_zero, h16, k2, f22, gx_cmp_eq, hid]
        exact bad
  refine c98_10 (by simp) k2 (by omega) (x_has k2 f23) (gx_kn ?_) gx_kx
  by_cases g2 : fl &&& 2 = 0
  · simp only [r98_0, r98_0n, r98_1, r98_1n, r98_5, r98_8, r98_8n, r98_9, r98_13, r98_16, r98_16n, r98_17, r98_21, r98_28, r98_31, r98_31n, r98_32, r98_35, r98_36, r98_37, r98_41, r98_46, r98_46a, r98_46n, i32_10, reduceIte, gm_cmp1, gm_cmp3, gm_cmp4, gm_kd_sf, gm_ln_sf, gm_sf_1, gm_sf_2, gm_nw_1, gm_nw_2, gm_k_int, gm_k_ref, gm_k_null, gm_k_u, gm_k_long, and_true, true_and, true_or, or_true, or_false, false_or, and_self, or_self, if_true, if_false, List.map_nil, List.map_cons, List.sum_nil, List.sum_cons, Nat.zero_le, Option.toList_some, Option.toList_none, List.cons_append, List.nil_append, ne_eq, not_false_eq_true, not_true_eq_false, nI_1, nI_add, Value.category, Nat.reduceAdd, Nat.reduceMod, Nat.reduceLeDiff, Nat.reduceLT, Nat.reduceEqDiff, Nat.reducePow, Nat.le_refl, Nat.add_left_cancel_iff, Nat.add_eq_left, Nat.left_eq_add, Nat.add_zero, g2]
    exact third (fun z => z.1 g2)
  · simp only [r98_0, r98_0n, r98_1, r98_1n, r98_5, r98_8, r98_8n, r98_9, r98_13, r98_16, r98_16n, r98_17, r98_21, r98_28, r98_31, r98_31n, r98_32, r98_35, r98_36, r98_37, r98_41, r98_46, r98_46a, r98_46n, i32_10, reduceIte, gm_cmp1, gm_cmp3, gm_cmp4, gm_kd_sf, gm_ln_sf, gm_sf_1, gm_sf_2, gm_nw_1, gm_nw_2, gm_k_int, gm_k_ref, gm_k_null, gm_k_u, gm_k_long, and_true, true_and, true_or, or_true, or_false, false_or, and_self, or_self, if_true, if_false, List.map_nil, List.map_cons, List.sum_nil, List.sum_cons, Nat.zero_le, Option.toList_some, Option.toList_none, List.cons_append, List.nil_append, ne_eq, not_false_eq_true, not_true_eq_false, nI_1, nI_add, Value.category, Nat.reduceAdd, Nat.reduceMod, Nat.reduceLeDiff, Nat.reduceLT, Nat.reduceEqDiff, Nat.reducePow, Nat.le_refl, Nat.add_left_cancel_iff, Nat.add_eq_left, Nat.left_eq_add, Nat.add_zero, g2]
    refine c98_18 (by simp) k2 (by omega) (x_has k2 f23) (gx_kn ?_) gx_kx
    by_cases g4 : fl &&& 4 = 0
    · simp only [r98_0, r98_0n, r98_1, r98_1n, r98_5, r98_8, r98_8n, r98_9, r98_13, r98_16, r98_16n, r98_17, r98_21, r98_28, r98_31, r98_31n, r98_32, r98_35, r98_36, r98_37, r98_41, r98_46, r98_46a, r98_46n, i32_10, reduceIte, gm_cmp1, gm_cmp3, gm_cmp4, gm_kd_sf, gm_ln_sf, gm_sf_1, gm_sf_2, gm_nw_1, gm_nw_2, gm_k_int, gm_k_ref, gm_k_null, gm_k_u, gm_k_long, and_true, true_and, true_or, or_true, or_false, false_or, and_self, or_self, if_true, if_false, List.map_nil, List.map_cons, List.sum_nil, List.sum_cons, Nat.zero_le, Option.toList_some, Option.toList_none, List.cons_append, List.nil_append, ne_eq, not_false_eq_true, not_true_eq_false, nI_1, nI_add, Value.category, Nat.reduceAdd, Nat.reduceMod, Nat.reduceLeDiff, Nat.reduceLT, Nat.reduceEqDiff, Nat.reducePow, Nat.le_refl, Nat.add_left_cancel_iff, Nat.add_eq_left, Nat.left_eq_add, Nat.add_zero, g4]
      exact third (fun z => z.2 g4)
    · rw [if_pos (Or.inl ⟨g2, g4⟩)] at hres
      rw [hres]
      simp only [r98_0, r98_0n, r98_1, r98_1n, r98_5, r98_8, r98_8n, r98_9, r98_13, r98_16, r98_16n, r98_17, r98_21, r98_28, r98_31, r98_31n, r98_32, r98_35, r98_36, r98_37, r98_41, r98_46, r98_46a, r98_46n, i32_10, reduceIte, gm_cmp1, gm_cmp3, gm_cmp4, gm_kd_sf, gm_ln_sf, gm_sf_1, gm_sf_2, gm_nw_1, gm_nw_2, gm_k_int, gm_k_ref, gm_k_null, gm_k_u, gm_k_long, and_true, true_and, true_or, or_true, or_false, false_or, and_self, or_self, if_true, if_false, List.map_nil, List.map_cons, List.sum_nil, List.sum_cons, Nat.zero_le, Option.toList_some, Option.toList_none, List.cons_append, List.nil_append, ne_eq, not_false_eq_true, not_true_eq_false, nI_1, nI_add, Value.category, Nat.reduceAdd, Nat.reduceMod, Nat.reduceLeDiff, Nat.reduceLT, Nat.reduceEqDiff, Nat.reducePow, Nat.le_refl, Nat.add_left_cancel_iff, Nat.add_eq_left, Nat.left_eq_add, Nat.add_zero, g4]
      exact bad
end Y1
