/-! THE CLASS, 3: objects, entries. -/
section X3
variable {E : Nat → Value} {d x : Nat} {h : gm_H} {ca : Nat → Nat} {K : gs_K} {F G : Nat → Prop} {s : gs_S}
theorem x_Thing {n : Nat} {so : Int32} {o : Option Nat} (hn : n < 1000) : gm_Ca E d 123 [.ref h.1, .int so, gx_ow ca o, .int (nI n)] (gx_n1 h) (gx_v none (gx_mk (gx_n1 h) h.1 so (gx_ow ca o) n)) := by
  have hn6 : n ≤ 60000000 := by omega
  have ht : gm_kd (gx_n1 h) h.1 = 4 := by unfold gx_n1; rw [gm_kd_nw1]; rfl
  have hne : h.1 ≠ h.1 + 1 := by omega
  cases o with
  | none =>
    show gm_W E d 123 0 [.ref h.1, .int so, .null, .int (nI n)] [] (gx_n1 h) _
    simp only [r123_0, r123_0n, r123_1, r123_4, r123_4n, r123_5, r123_6, r123_9, r123_9n, r123_10, r123_10n, r123_11, r123_11n, r123_14, r123_14n, r123_15, r123_16, r123_18, r123_18n, r123_21, i32_10, reduceIte, gm_cmp1, gm_cmp3, gm_cmp4, gm_kd_sf, gm_ln_sf, gm_sf_1, gm_sf_2, gm_nw_1, gm_nw_2, gm_k_int, gm_k_ref, gm_k_null, gm_k_u, gm_k_long, and_true, true_and, true_or, or_true, or_false, false_or, and_self, or_self, if_true, if_false, List.map_nil, List.map_cons, List.sum_nil, List.sum_cons, Nat.zero_le, Option.toList_some, Option.toList_none, List.cons_append, List.nil_append, ne_eq, not_false_eq_true, not_true_eq_false, nI_1, nI_add, Value.category, Nat.reduceAdd, Nat.reduceMod, Nat.reduceLeDiff, Nat.reduceLT, Nat.reduceEqDiff, Nat.reducePow, Nat.le_refl, Nat.add_left_cancel_iff, Nat.add_eq_left, Nat.left_eq_add, Nat.add_zero, ht, hn6, gm_kd_nw, gx_n1_1, hne]
    exact ⟨rfl, by unfold gx_mk; simp only [gm_sf_1, gx_n1_1, gx_ow]⟩
  | some c =>
    show gm_W E d 123 0 [.ref h.1, .int so, .ref (ca c), .int (nI n)] [] (gx_n1 h) _
    simp only [r123_0, r123_0n, r123_1, r123_4, r123_4n, r123_5, r123_6, r123_9, r123_9n, r123_10, r123_10n, r123_11, r123_11n, r123_14, r123_14n, r123_15, r123_16, r123_18, r123_18n, r123_21, i32_10, reduceIte, gm_cmp1, gm_cmp3, gm_cmp4, gm_kd_sf, gm_ln_sf, gm_sf_1, gm_sf_2, gm_nw_1, gm_nw_2, gm_k_int, gm_k_ref, gm_k_null, gm_k_u, gm_k_long, and_true, true_and, true_or, or_true, or_false, false_or, and_self, or_self, if_true, if_false, List.map_nil, List.map_cons, List.sum_nil, List.sum_cons, Nat.zero_le, Option.toList_some, Option.toList_none, List.cons_append, List.nil_append, ne_eq, not_false_eq_true, not_true_eq_false, nI_1, nI_add, Value.category, Nat.reduceAdd, Nat.reduceMod, Nat.reduceLeDiff, Nat.reduceLT, Nat.reduceEqDiff, Nat.reducePow, Nat.le_refl, Nat.add_left_cancel_iff, Nat.add_eq_left, Nat.left_eq_add, Nat.add_zero, ht, hn6, gm_kd_nw, gx_n1_1, hne]
    exact ⟨rfl, by unfold gx_mk; simp only [gm_sf_1, gx_n1_1, gx_ow]⟩
theorem x_addThing {t : Nat} {o : gs_O} (hd : 1 ≤ d) (R : gx_R E h x ca K F s) (how : ∀ c, o.2.1 = some c → (gs_cls K c).isSome = true) (ho : gx_th h ca o t) (ht : gx_ok h x F t ∧ gx_ok h x F (t + 1)) (hb : ∀ i u, i < (gs_hp s).length → gm_fv h (x + 3) i = .ref u → u + 1 < t) :
    gm_Ca E d 77 [.ref x, .ref t] h (gx_P E h x ca K F G s (fun a h' v => (v = some (.int (nI a)) ∧ gx_nal h h') ∧ gm_fv h' (x + 3) a = .ref t) (gs_addT o s)) := by
  show gm_W E d 77 0 [.ref x, .ref t] [] h _
  have l0 := R.len.1
  obtain ⟨A0, -, -, A8, -, -, -, -, -, A3, A3l, -⟩ := R.1
  obtain ⟨z1, z2, z3, z4, z5, z6, z7, z8, z9⟩ := R.2.2.2.1
  unfold gs_addT
  by_cases h1 : 234 ≤ (gs_hp s).length
  · have e1 : ¬ nI (gs_hp s).length < 234 := nI_nlt (b := 234) h1 (by omega)
    simp only [r77_0, r77_0n, r77_1, r77_4, r77_7, r77_10, r77_10n, r77_11, r77_16, r77_17, r77_17n, r77_18, r77_21, r77_21n, r77_22, r77_25, r77_25n, r77_26, r77_26n, r77_27, r77_27n, r77_28, r77_28i, r77_29, r77_32, r77_33, r77_34, r77_37, r77_37n, r77_38, r77_41, r77_42, r77_43, i32_10, reduceIte, gm_cmp1, gm_cmp3, gm_cmp4, gm_kd_sf, gm_ln_sf, gm_sf_1, gm_sf_2, gm_nw_1, gm_nw_2, gm_k_int, gm_k_ref, gm_k_null, gm_k_u, gm_k_long, and_true, true_and, true_or, or_true, or_false, false_or, and_self, or_self, if_true, if_false, List.map_nil, List.map_cons, List.sum_nil, List.sum_cons, Nat.zero_le, Option.toList_some, Option.toList_none, List.cons_append, List.nil_append, ne_eq, not_false_eq_true, not_true_eq_false, nI_1, nI_add, Value.category, Nat.reduceAdd, Nat.reduceMod, Nat.reduceLeDiff, Nat.reduceLT, Nat.reduceEqDiff, Nat.reducePow, Nat.le_refl, Nat.add_left_cancel_iff, Nat.add_eq_left, Nat.left_eq_add, Nat.add_zero, A0, z3, e1, h1]
    exact c77_13 (by simp) A0 hd (x_fail R) gx_fn (fun _ _ q => q)
  · have e1 : nI (gs_hp s).length < 234 := nI_lt (b := 234) (by omega) (by decide)
    have hl : (gs_hp s).length < 234 := by omega
    have n03 : x ≠ x + 3 := by omega
    have e9 : gm_fv (gm_sf (gm_sf h (x + 3) (gs_hp s).length (.ref t)) x 9 (.int (nI ((gs_hp s).length + 1)))) x 9 = .int (nI ((gs_hp s).length + 1)) := gm_fv_sf (by simp only [gm_ln_sf]; omega)
    have hs1 : nI ((gs_hp s).length + 1) - 1 = nI (gs_hp s).length := nI_sub (b := 1) (by omega)
    simp only [r77_0, r77_0n, r77_1, r77_4, r77_7, r77_10, r77_10n, r77_11, r77_16, r77_17, r77_17n, r77_18, r77_21, r77_21n, r77_22, r77_25, r77_25n, r77_26, r77_26n, r77_27, r77_27n, r77_28, r77_28i, r77_29, r77_32, r77_33, r77_34, r77_37, r77_37n, r77_38, r77_41, r77_42, r77_43, i32_10, reduceIte, gm_cmp1, gm_cmp3, gm_cmp4, gm_kd_sf, gm_ln_sf, gm_sf_1, gm_sf_2, gm_nw_1, gm_nw_2, gm_k_int, gm_k_ref, gm_k_null, gm_k_u, gm_k_long, and_true, true_and, true_or, or_true, or_false, false_or, and_self, or_self, if_true, if_false, List.map_nil, List.map_cons, List.sum_nil, List.sum_cons, Nat.zero_le, Option.toList_some, Option.toList_none, List.cons_append, List.nil_append, ne_eq, not_false_eq_true, not_true_eq_false, nI_1, nI_add, Value.category, Nat.reduceAdd, Nat.reduceMod, Nat.reduceLeDiff, Nat.reduceLT, Nat.reduceEqDiff, Nat.reducePow, Nat.le_refl, Nat.add_left_cancel_iff, Nat.add_eq_left, Nat.left_eq_add, Nat.add_zero, A0, z3, e1, h1, A8, A3, A3l, hl, ho.1, gm_fv_sfa n03, e9, hs1]
    refine ⟨_, _, rfl, ⟨⟨rfl, gx_nal.refl.sf.sf⟩, by rw [gm_fv_sfa (by omega), gm_fv_sf (by omega)]⟩, R.addT how hl ho ht hb, (gx_mv.thg (Nat.le_refl _)).tr (gx_mv.fld (by decide)), ⟨by simp [gs_hp], Nat.le_refl _⟩, ?_⟩
    constructor
    · simp only [gm_sf_1]; exact Nat.le_refl _
    · simp only [gm_sf_2]; exact Nat.le_refl _
theorem x_nextEntry (hd : 3 ≤ d) (R : gx_R E h x ca K F s) : gm_Ca E d 83 [.ref x] h (gx_P E h x ca K F G s (fun a h' v => v = some (.int (nI a)) ∧ gx_nal h h') (gs_ent K s)) := by
  show gm_W E d 83 0 [.ref x, gm_u] [] h _
  obtain ⟨A0, -, -, -, A10, -, -, -, -, -, -, A4, -⟩ := R.1
  obtain ⟨-, -, -, -, z5, z6, z7, z8, -⟩ := R.2.2.2.1
  simp only [r83_0, r83_0n, r83_1, r83_4, r83_7, r83_7n, r83_11, r83_12, r83_14, r83_15, r83_16, r83_17, r83_17n, r83_18, r83_21, r83_24, r83_27, r83_28, r83_28n, r83_29, r83_32, r83_35, r83_38, r83_39, r83_42, r83_42n, r83_43, r83_48, i32_10, reduceIte, gm_cmp1, gm_cmp3, gm_cmp4, gm_kd_sf, gm_ln_sf, gm_sf_1, gm_sf_2, gm_nw_1, gm_nw_2, gm_k_int, gm_k_ref, gm_k_null, gm_k_u, gm_k_long, and_true, true_and, true_or, or_true, or_false, false_or, and_self, or_self, if_true, if_false, List.map_nil, List.map_cons, List.sum_nil, List.sum_cons, Nat.zero_le, Option.toList_some, Option.toList_none, List.cons_append, List.nil_append, ne_eq, not_false_eq_true, not_true_eq_false, nI_1, nI_add, Value.category, Nat.reduceAdd, Nat.reduceMod, Nat.reduceLeDiff, Nat.reduceLT, Nat.reduceEqDiff, Nat.reducePow, Nat.le_refl, Nat.add_left_cancel_iff, Nat.add_eq_left, Nat.left_eq_add, Nat.add_zero, A0, A10, A4, z5]
  refine c83_8 (by simp [Value.category]) A0 (by omega) (x_nextInt (by omega) R) (fun v h1 q => ?_) (fun _ _ q => q.ber)
  obtain ⟨i, s1, e, ⟨rfl, na⟩, R1, mv, le, co⟩ := q
  refine gm_W.mono ?_ (fun r h' w => gx_P.bnd w e mv le co)
  have es : gs_f1 s1 = gs_f1 s := by
    unfold gs_u4 gs_b at e
    unfold gs_nxt at e
    by_cases hc : gs_n K - gs_pl s < 4
    · rw [if_pos hc] at e; cases e
    · rw [if_neg hc] at e; cases e; rfl
  obtain ⟨A0, -, -, -, A10, -, -, -, -, -, -, A4, -⟩ := R1.1
  obtain ⟨-, -, -, -, z5, z6, z7, z8, -⟩ := R1.2.2.2.1
  rw [← es]
  have fin : ∀ v : Int32, gm_W E d 83 42 [.ref x, .int v] [] h1 (gx_P E h1 x ca K F G s1 (fun a h' v => v = some (.int (nI a)) ∧ gx_nal h h') (.error (-4) : Except Int32 (Nat × gs_S))) := by
    intro v
    simp only [r83_0, r83_0n, r83_1, r83_4, r83_7, r83_7n, r83_11, r83_12, r83_14, r83_15, r83_16, r83_17, r83_17n, r83_18, r83_21, r83_24, r83_27, r83_28, r83_28n, r83_29, r83_32, r83_35, r83_38, r83_39, r83_42, r83_42n, r83_43, r83_48, i32_10, reduceIte, gm_cmp1, gm_cmp3, gm_cmp4, gm_kd_sf, gm_ln_sf, gm_sf_1, gm_sf_2, gm_nw_1, gm_nw_2, gm_k_int, gm_k_ref, gm_k_null, gm_k_u, gm_k_long, and_true, true_and, true_or, or_true, or_false, false_or, and_self, or_self, if_true, if_false, List.map_nil, List.map_cons, List.sum_nil, List.sum_cons, Nat.zero_le, Option.toList_some, Option.toList_none, List.cons_append, List.nil_append, ne_eq, not_false_eq_true, not_true_eq_false, nI_1, nI_add, Value.category, Nat.reduceAdd, Nat.reduceMod, Nat.reduceLeDiff, Nat.reduceLT, Nat.reduceEqDiff, Nat.reducePow, Nat.le_refl, Nat.add_left_cancel_iff, Nat.add_eq_left, Nat.left_eq_add, Nat.add_zero]
    exact c83_45 (by simp) A0 (by omega) (x_fail R1) gx_fn (fun _ _ q => q)
  simp only [r83_0, r83_0n, r83_1, r83_4, r83_7, r83_7n, r83_11, r83_12, r83_14, r83_15, r83_16, r83_17, r83_17n, r83_18, r83_21, r83_24, r83_27, r83_28, r83_28n, r83_29, r83_32, r83_35, r83_38, r83_39, r83_43, r83_48, i32_10, reduceIte, gm_cmp1, gm_cmp3, gm_cmp4, gm_kd_sf, gm_ln_sf, gm_sf_1, gm_sf_2, gm_nw_1, gm_nw_2, gm_k_int, gm_k_ref, gm_k_null, gm_k_u, gm_k_long, and_true, true_and, true_or, or_true, or_false, false_or, and_self, or_self, if_true, if_false, List.map_nil, List.map_cons, List.sum_nil, List.sum_cons, Nat.zero_le, Option.toList_some, Option.toList_none, List.cons_append, List.nil_append, ne_eq, not_false_eq_true, not_true_eq_false, nI_1, nI_add, Value.category, Nat.reduceAdd, Nat.reduceMod, Nat.reduceLeDiff, Nat.reduceLT, Nat.reduceEqDiff, Nat.reducePow, Nat.le_refl, Nat.add_left_cancel_iff, Nat.add_eq_left, Nat.left_eq_add, Nat.add_zero, A0, A10, A4, z5, z6, i32_as]
  generalize i - 8257536 = j
  have fin := fin (nI (gs_f1 s1) + j)
  by_cases h1 : j < 0
  · simp only [h1, nI_addn (show gs_f1 s1 < 1000 by omega) h1, if_true]
    exact fin
  · simp only [h1, if_false]
    obtain ⟨m, hm, rfl⟩ := nI_of h1
    by_cases h2 : 2 ^ 31 ≤ gs_f1 s1 + m
    · have : nI (gs_size s1) ≤ nI m := nI_le (by unfold gs_size; omega) hm
      simp only [nI_addw (show gs_f1 s1 < 1000 by omega) hm h2, this, if_true]
      exact fin
    · have ef : ¬ nI (gs_f1 s1) + nI m < nI (gs_f1 s1) := by rw [nI_add]; exact nI_nlt (by omega) (by omega)
      by_cases h3 : gs_size s1 ≤ m
      · have g1 : nI (gs_size s1) ≤ nI m := nI_le h3 hm
        have g2 : nI (gs_hs s1).length ≤ nI (gs_f1 s1) + nI m := by rw [nI_add]; exact nI_le (by unfold gs_size at h3; omega) (by omega)
        simp only [ef, g1, g2, if_true, if_false]
        exact fin
      · have g1 : ¬ nI (gs_size s1) ≤ nI m := nI_ge (by omega) (by unfold gs_size; omega)
        have g2 : ¬ nI (gs_hs s1).length ≤ nI (gs_f1 s1) + nI m := by rw [nI_add]; exact nI_ge (by unfold gs_size at h3; omega) (by omega)
        simp only [ef, g1, g2, if_false, nI_clamp hm]
        exact ⟨_, s1, rfl, ⟨by rw [nI_add], na⟩, R1, gx_mv.refl, gx_le.refl, gx_co.refl⟩
end X3
