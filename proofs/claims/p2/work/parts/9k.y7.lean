/-! THE CLASS, 16: constants. -/
section Y7
variable {E : Nat → Value} {d x d0 dp : Nat} {h : gm_H} {ca : Nat → Nat} {K : gs_K} {F G : Nat → Prop} {s : gs_S} {rc : gs_M Int32}
def gs_isC (c : Nat) (nm : Int32) (ob : gs_O) : Bool := ob.1 == 4 && ob.2.1 == some c && ob.2.2.2.1 == nm
theorem x_onlyConstant {c : Nat} {Cc : gs_C} {nm : Int32} (hd : 2 ≤ d) (R : gx_R E h x ca K F s) (hC : gs_cls K c = some Cc) (hF : ∀ a, F a → a < h.1) : gm_Ca E d 89 [.ref x, .ref (ca c), .int nm] h (fun r h' => match gs_only c nm s with
    | .ok q => r = .inl (some (.int (nI q.1))) ∧ gx_R E h' x ca K F q.2 ∧ gx_mv h h' x G s ∧ gx_le s q.2 ∧ h'.1 ≤ h.1 + 2 ∧ h'.2.1 ≤ h.2.1 + 5 ∧ gs_pl q.2 = gs_pl s ∧ gs_hs q.2 = gs_hs s
    | .error f => (∃ a, r = .inr a) ∧ gx_E h' x K f ∧ gx_mv h h' x G s ∧ h'.1 + gs_pl s ≤ h.1 + gs_n K + 5 ∧ h'.2.1 + 8 * gs_pl s ≤ h.2.1 + 8 * gs_n K + 65) := by
  obtain ⟨A0, -, -, A8, -, -, -, -, -, A3, A3l, -⟩ := R.1
  obtain ⟨z1, z2, z3, z4, z5, z6, z7, z8, z9⟩ := R.2.2.2.1
  have ht := R.top
  have ho := R.2.2.2.2.2.2.1
  obtain ⟨Q, hQ⟩ : ∃ Q : gm_R → gm_H → Prop, Q = (fun r h' => match gs_only c nm s with
    | .ok q => r = .inl (some (.int (nI q.1))) ∧ gx_R E h' x ca K F q.2 ∧ gx_mv h h' x G s ∧ gx_le s q.2 ∧ h'.1 ≤ h.1 + 2 ∧ h'.2.1 ≤ h.2.1 + 5 ∧ gs_pl q.2 = gs_pl s ∧ gs_hs q.2 = gs_hs s
    | .error f => (∃ a, r = .inr a) ∧ gx_E h' x K f ∧ gx_mv h h' x G s ∧ h'.1 + gs_pl s ≤ h.1 + gs_n K + 5 ∧ h'.2.1 + 8 * gs_pl s ≤ h.2.1 + 8 * gs_n K + 65) := ⟨_, rfl⟩
  rw [← hQ]
  have loop : ∀ (m k : Nat) (w : Value), k + m = (gs_hp s).length → (∀ i (hi : i < (gs_hp s).length), i < k → gs_isC c nm (gs_hp s)[i] = false) → gm_W E d 89 2 [.ref x, .ref (ca c), .int nm, .int (nI k)] [] h Q := by
    intro m
    induction m with
    | zero =>
      intro k w hk hn
      have hk : k = (gs_hp s).length := by omega
      subst hk
      have eo : gs_only c nm s = gs_addT (4, some c, [], nm, 0) s := by
        unfold gs_only
        have : (gs_hp s).findIdx? (fun ob => ob.1 == 4 && ob.2.1 == some c && ob.2.2.2.1 == nm) = none := by
          rw [List.findIdx?_eq_none_iff]
          intro q hq
          obtain ⟨i, hi, rfl⟩ := List.getElem_of_mem hq
          exact hn i hi hi
        rw [this]
      -- a new one
      obtain ⟨h1, h1e⟩ : ∃ h1, h1 = gx_mk (gx_n1 h) h.1 4 (gx_ow ca (some c)) 0 := ⟨_, rfl⟩
      have r1 : ∀ b, b < h.1 → gm_rd h1 b = gm_rd h b := by rw [h1e]; exact gx_mk_rd
      have t1 : gx_th h1 ca (4, some c, List.replicate 0 0, 0, 0) h.1 := by rw [h1e]; exact gx_mk_th (by decide)
      have c1 : h1.1 = h.1 + 2 ∧ h1.2.1 = h.2.1 + 5 + 0 := by rw [h1e]; exact gx_mk_1
      have kn : gm_kd (gx_n1 h) x = 0 := by unfold gx_n1; rw [gm_kd_nw (by omega)]; exact A0
      simp only [r89_0, r89_1, r89_2, r89_3, r89_3n, r89_4, r89_7, r89_10, r89_10n, r89_11, r89_14, r89_15, r89_16, r89_19, r89_20, r89_23, r89_23n, r89_24, r89_27, r89_28, r89_29, r89_32, r89_32n, r89_33, r89_33n, r89_33m, r89_33o, r89_36, r89_36n, r89_37, r89_40, r89_41, r89_42, r89_45, r89_46, r89_49, r89_50, r89_51, r89_54, r89_57, r89_60, r89_60i, r89_61, r89_62, r89_62n, r89_63, r89_67, r89_67n, r89_68, r89_68n, r89_69, r89_70, r89_73, r89_73n, r89_74, r89_74n, r89_78, i32_10, reduceIte, gm_cmp1, gm_cmp3, gm_cmp4, gm_kd_sf, gm_ln_sf, gm_sf_1, gm_sf_2, gm_nw_1, gm_nw_2, gm_k_int, gm_k_ref, gm_k_null, gm_k_u, gm_k_long, and_true, true_and, true_or, or_true, or_false, false_or, and_self, or_self, if_true, if_false, List.map_nil, List.map_cons, List.sum_nil, List.sum_cons, Nat.zero_le, Option.toList_some, Option.toList_none, List.cons_append, List.nil_append, ne_eq, not_false_eq_true, not_true_eq_false, nI_1, nI_add, Value.category, Nat.reduceAdd, Nat.reduceMod, Nat.reduceLeDiff, Nat.reduceLT, Nat.reduceEqDiff, Nat.reducePow, Nat.le_refl, Nat.add_left_cancel_iff, Nat.add_eq_left, Nat.left_eq_add, Nat.add_zero, A0, z3, nI_leT (Nat.le_refl (gs_hp s).length) (show (gs_hp s).length < 2 ^ 31 by omega)]
      refine c89_64 (by simp [Value.category]) (by simp [gm_en1]) (by omega) (x_Thing (h := h) (ca := ca) (o := some c) (n := 0) (so := 4) (by decide)) (gx_kn ?_) gx_kx
      rw [← h1e]
      obtain ⟨h2, h2e⟩ : ∃ h2, h2 = gm_sf h1 h.1 3 (.int nm) := ⟨_, rfl⟩
      have l1 : gm_ln h1 h.1 = 5 := gm_kd_ln t1.1 (by decide)
      have r2 : ∀ b, b < h.1 → gm_rd h2 b = gm_rd h b := fun b hb => by rw [h2e, gm_rd_sfn (by omega)]; exact r1 b hb
      have t2 : gx_th h2 ca (4, some c, [], nm, 0) h.1 := by
        obtain ⟨q1, q2, q3, q4, q5, q6, q7, q8, q9, q10⟩ := t1
        have n1 : h.1 + 1 ≠ h.1 := by omega
        rw [h2e]
        exact ⟨by rw [gm_kd_sf]; exact q1, by rw [gm_fv_sfj (by decide)]; exact q2, by rw [gm_fv_sfj (by decide)]; exact q3, by rw [gm_fv_sfj (by decide)]; exact q4, gm_fv_sf (by rw [l1]; decide), by rw [gm_fv_sfj (by decide)]; exact q6, by rw [gm_kd_sf]; exact q7, by rw [gm_ln_sf]; exact q8, by show 0 < 1000; decide, fun j v e => by simp at e⟩
      have h21 : h2.1 = h.1 + 2 ∧ h2.2.1 = h.2.1 + 5 := by rw [h2e]; simp only [gm_sf_1, gm_sf_2]; omega
      have R2 : gx_R E h2 x ca K F s := R.far (by omega) r2
      simp only [r89_0, r89_1, r89_2, r89_3, r89_3n, r89_4, r89_7, r89_10, r89_10n, r89_11, r89_14, r89_15, r89_16, r89_19, r89_20, r89_23, r89_23n, r89_24, r89_27, r89_28, r89_29, r89_32, r89_32n, r89_33, r89_33n, r89_33m, r89_33o, r89_36, r89_36n, r89_37, r89_40, r89_41, r89_42, r89_45, r89_46, r89_49, r89_50, r89_51, r89_54, r89_57, r89_60, r89_60i, r89_61, r89_62, r89_62n, r89_63, r89_67, r89_67n, r89_68, r89_68n, r89_69, r89_70, r89_73, r89_73n, r89_74, r89_74n, r89_78, i32_10, reduceIte, gm_cmp1, gm_cmp3, gm_cmp4, gm_kd_sf, gm_ln_sf, gm_sf_1, gm_sf_2, gm_nw_1, gm_nw_2, gm_k_int, gm_k_ref, gm_k_null, gm_k_u, gm_k_long, and_true, true_and, true_or, or_true, or_false, false_or, and_self, or_self, if_true, if_false, List.map_nil, List.map_cons, List.sum_nil, List.sum_cons, Nat.zero_le, Option.toList_some, Option.toList_none, List.cons_append, List.nil_append, ne_eq, not_false_eq_true, not_true_eq_false, nI_1, nI_add, Value.category, Nat.reduceAdd, Nat.reduceMod, Nat.reduceLeDiff, Nat.reduceLT, Nat.reduceEqDiff, Nat.reducePow, Nat.le_refl, Nat.add_left_cancel_iff, Nat.add_eq_left, Nat.left_eq_add, Nat.add_zero, t1.1]
      rw [← h2e]
      refine c89_75 (by simp) (by simp [gm_en1]) R2.1.1 (by omega) (x_addThing (G := G) (by omega) R2 (fun c' e => by cases e; rw [hC]; rfl) t2 ⟨⟨Or.inr ht, by omega, fun z => by have := hF _ z; omega⟩, ⟨Or.inr (by omega), by omega, fun z => by have := hF _ z; omega⟩⟩ (fun i u hi hu => R.below i u hi (by rw [← gv_fv (r2 (x + 3) (by omega))]; exact hu))) (fun v h3 q => ?_) (fun v h3 q => ?_)
      · obtain ⟨o, s3, e3, ⟨⟨rfl, na3⟩, -⟩, R3, mv3, le3, co3⟩ := q
        simp only [r89_0, r89_1, r89_2, r89_3, r89_3n, r89_4, r89_7, r89_10, r89_10n, r89_11, r89_14, r89_15, r89_16, r89_19, r89_20, r89_23, r89_23n, r89_24, r89_27, r89_28, r89_29, r89_32, r89_32n, r89_33, r89_33n, r89_33m, r89_33o, r89_36, r89_36n, r89_37, r89_40, r89_41, r89_42, r89_45, r89_46, r89_49, r89_50, r89_51, r89_54, r89_57, r89_60, r89_60i, r89_61, r89_62, r89_62n, r89_63, r89_67, r89_67n, r89_68, r89_68n, r89_69, r89_70, r89_73, r89_73n, r89_74, r89_74n, r89_78, i32_10, reduceIte, gm_cmp1, gm_cmp3, gm_cmp4, gm_kd_sf, gm_ln_sf, gm_sf_1, gm_sf_2, gm_nw_1, gm_nw_2, gm_k_int, gm_k_ref, gm_k_null, gm_k_u, gm_k_long, and_true, true_and, true_or, or_true, or_false, false_or, and_self, or_self, if_true, if_false, List.map_nil, List.map_cons, List.sum_nil, List.sum_cons, Nat.zero_le, Option.toList_some, Option.toList_none, List.cons_append, List.nil_append, ne_eq, not_false_eq_true, not_true_eq_false, nI_1, nI_add, Value.category, Nat.reduceAdd, Nat.reduceMod, Nat.reduceLeDiff, Nat.reduceLT, Nat.reduceEqDiff, Nat.reducePow, Nat.le_refl, Nat.add_left_cancel_iff, Nat.add_eq_left, Nat.left_eq_add, Nat.add_zero]
        rw [hQ]
        obtain ⟨-, es3⟩ := gs_addT_ok e3
        rw [eo, e3]
        refine ⟨rfl, R3, (gx_mv.far (G := G) (s := s) ht (by omega) r2).tr mv3, le3, by have := na3.1; omega, by have := na3.2; omega, by rw [es3]; rfl, by rw [es3]; rfl⟩
      · obtain ⟨f, e3, E3, mv3, cx3⟩ := q
        rw [hQ, eo, e3]
        refine ⟨⟨v, rfl⟩, E3, (gx_mv.far (G := G) (s := s) ht (by omega) r2).tr mv3, ?_⟩
        obtain ⟨a3, b3⟩ := cx3
        omega
    | succ m ih =>
      intro k w hk hn
      have hkl : k < (gs_hp s).length := by omega
      have hk234 : k < 234 := by omega
      obtain ⟨t, ft, -, -, q⟩ := R.thing (List.getElem?_eq_getElem hkl)
      obtain ⟨q1, q2, q3, q4, q5, q6, q7, q8, q9, q10⟩ := q
      have nx : gs_isC c nm (gs_hp s)[k] = false → gm_W E d 89 51 [.ref x, .ref (ca c), .int nm, .int (nI k)] [] h Q := by
        intro e
        simp only [r89_0, r89_1, r89_3, r89_3n, r89_4, r89_7, r89_10, r89_10n, r89_11, r89_14, r89_15, r89_16, r89_19, r89_20, r89_23, r89_23n, r89_24, r89_27, r89_28, r89_29, r89_32, r89_32n, r89_33, r89_33n, r89_33m, r89_33o, r89_36, r89_36n, r89_37, r89_40, r89_41, r89_42, r89_45, r89_46, r89_49, r89_50, r89_51, r89_54, r89_57, r89_60, r89_60i, r89_61, r89_62, r89_62n, r89_63, r89_67, r89_67n, r89_68, r89_68n, r89_69, r89_70, r89_73, r89_73n, r89_74, r89_74n, r89_78, i32_10, reduceIte, gm_cmp1, gm_cmp3, gm_cmp4, gm_kd_sf, gm_ln_sf, gm_sf_1, gm_sf_2, gm_nw_1, gm_nw_2, gm_k_int, gm_k_ref, gm_k_null, gm_k_u, gm_k_long, and_true, true_and, true_or, or_true, or_false, false_or, and_self, or_self, if_true, if_false, List.map_nil, List.map_cons, List.sum_nil, List.sum_cons, Nat.zero_le, Option.toList_some, Option.toList_none, List.cons_append, List.nil_append, ne_eq, not_false_eq_true, not_true_eq_false, nI_1, nI_add, Value.category, Nat.reduceAdd, Nat.reduceMod, Nat.reduceLeDiff, Nat.reduceLT, Nat.reduceEqDiff, Nat.reducePow, Nat.le_refl, Nat.add_left_cancel_iff, Nat.add_eq_left, Nat.left_eq_add, Nat.add_zero]
        refine ih (k + 1) w (by omega) (fun i hi hik => ?_)
        by_cases ei : i = k
        · subst ei; exact e
        · exact hn i hi (by omega)
      have yes : gs_isC c nm (gs_hp s)[k] = true → Q (.inl (some (.int (nI k)))) h := by
        intro e
        have eo : gs_only c nm s = .ok (k, s) := by
          unfold gs_only
          have : (gs_hp s).findIdx? (fun ob => ob.1 == 4 && ob.2.1 == some c && ob.2.2.2.1 == nm) = some k := by
            rw [List.findIdx?_eq_some_iff_getElem]
            exact ⟨hkl, e, fun i hi => by have := hn i (by omega) hi; unfold gs_isC at this; rw [this]; simp⟩
          rw [this]
        rw [hQ, eo]
        exact ⟨rfl, R, gx_mv.refl, gx_le.refl, by omega, by omega, rfl, rfl⟩
      rw [r89_2]
      simp only [r89_0, r89_1, r89_3, r89_3n, r89_4, r89_7, r89_10, r89_10n, r89_11, r89_14, r89_15, r89_16, r89_19, r89_20, r89_23, r89_23n, r89_24, r89_27, r89_28, r89_29, r89_32, r89_32n, r89_33, r89_33n, r89_33m, r89_33o, r89_36, r89_36n, r89_37, r89_40, r89_41, r89_42, r89_45, r89_46, r89_49, r89_50, r89_54, r89_57, r89_60, r89_60i, r89_61, r89_62, r89_62n, r89_63, r89_67, r89_67n, r89_68, r89_68n, r89_69, r89_70, r89_73, r89_73n, r89_74, r89_74n, r89_78, i32_10, reduceIte, gm_cmp1, gm_cmp3, gm_cmp4, gm_kd_sf, gm_ln_sf, gm_sf_1, gm_sf_2, gm_nw_1, gm_nw_2, gm_k_int, gm_k_ref, gm_k_null, gm_k_u, gm_k_long, and_true, true_and, true_or, or_true, or_false, false_or, and_self, or_self, if_true, if_false, List.map_nil, List.map_cons, List.sum_nil, List.sum_cons, Nat.zero_le, Option.toList_some, Option.toList_none, List.cons_append, List.nil_append, ne_eq, not_false_eq_true, not_true_eq_false, nI_1, nI_add, Value.category, Nat.reduceAdd, Nat.reduceMod, Nat.reduceLeDiff, Nat.reduceLT, Nat.reduceEqDiff, Nat.reducePow, Nat.le_refl, Nat.add_left_cancel_iff, Nat.add_eq_left, Nat.left_eq_add, Nat.add_zero, A0, z3, nI_leF hkl (show (gs_hp s).length < 2 ^ 31 by omega), A8, A3, A3l, hk234, ft, q1, q2]
      by_cases e4 : (gs_hp s)[k].1 = 4
      · cases hw : (gs_hp s)[k].2.1 with
        | none =>
          rw [hw] at q3
          have q3 : gm_fv h t 1 = .null := q3
          simp only [r89_0, r89_1, r89_3, r89_3n, r89_4, r89_7, r89_10, r89_10n, r89_11, r89_14, r89_15, r89_16, r89_19, r89_20, r89_23, r89_23n, r89_24, r89_27, r89_28, r89_29, r89_32, r89_32n, r89_33, r89_33n, r89_33m, r89_33o, r89_36, r89_36n, r89_37, r89_40, r89_41, r89_42, r89_45, r89_46, r89_49, r89_50, r89_54, r89_57, r89_60, r89_60i, r89_61, r89_62, r89_62n, r89_63, r89_67, r89_67n, r89_68, r89_68n, r89_69, r89_70, r89_73, r89_73n, r89_74, r89_74n, r89_78, i32_10, reduceIte, gm_cmp1, gm_cmp3, gm_cmp4, gm_kd_sf, gm_ln_sf, gm_sf_1, gm_sf_2, gm_nw_1, gm_nw_2, gm_k_int, gm_k_ref, gm_k_null, gm_k_u, gm_k_long, and_true, true_and, true_or, or_true, or_false, false_or, and_self, or_self, if_true, if_false, List.map_nil, List.map_cons, List.sum_nil, List.sum_cons, Nat.zero_le, Option.toList_some, Option.toList_none, List.cons_append, List.nil_append, ne_eq, not_false_eq_true, not_true_eq_false, nI_1, nI_add, Value.category, Nat.reduceAdd, Nat.reduceMod, Nat.reduceLeDiff, Nat.reduceLT, Nat.reduceEqDiff, Nat.reducePow, Nat.le_refl, Nat.add_left_cancel_iff, Nat.add_eq_left, Nat.left_eq_add, Nat.add_zero, e4, A0, A8, A3, A3l, hk234, ft, q1, q3]
          exact nx (by unfold gs_isC; rw [hw]; simp)
        | some c' =>
          rw [hw] at q3
          have q3 : gm_fv h t 1 = .ref (ca c') := q3
          simp only [r89_0, r89_1, r89_3, r89_3n, r89_4, r89_7, r89_10, r89_10n, r89_11, r89_14, r89_15, r89_16, r89_19, r89_20, r89_23, r89_23n, r89_24, r89_27, r89_28, r89_29, r89_32, r89_32n, r89_33, r89_33n, r89_33m, r89_33o, r89_36, r89_36n, r89_37, r89_40, r89_41, r89_42, r89_45, r89_46, r89_49, r89_50, r89_54, r89_57, r89_60, r89_60i, r89_61, r89_62, r89_62n, r89_63, r89_67, r89_67n, r89_68, r89_68n, r89_69, r89_70, r89_73, r89_73n, r89_74, r89_74n, r89_78, i32_10, reduceIte, gm_cmp1, gm_cmp3, gm_cmp4, gm_kd_sf, gm_ln_sf, gm_sf_1, gm_sf_2, gm_nw_1, gm_nw_2, gm_k_int, gm_k_ref, gm_k_null, gm_k_u, gm_k_long, and_true, true_and, true_or, or_true, or_false, false_or, and_self, or_self, if_true, if_false, List.map_nil, List.map_cons, List.sum_nil, List.sum_cons, Nat.zero_le, Option.toList_some, Option.toList_none, List.cons_append, List.nil_append, ne_eq, not_false_eq_true, not_true_eq_false, nI_1, nI_add, Value.category, Nat.reduceAdd, Nat.reduceMod, Nat.reduceLeDiff, Nat.reduceLT, Nat.reduceEqDiff, Nat.reducePow, Nat.le_refl, Nat.add_left_cancel_iff, Nat.add_eq_left, Nat.left_eq_add, Nat.add_zero, e4, A0, A8, A3, A3l, hk234, ft, q1, q3, q5]
          obtain ⟨C', hC'⟩ := Option.isSome_iff_exists.mp (ho k _ c' (List.getElem?_eq_getElem hkl) hw)
          by_cases ec : c' = c
          · subst ec
            simp only [reduceIte]
            by_cases en : (gs_hp s)[k].2.2.2.1 = nm
            · simp only [en, reduceIte]
              exact yes (by unfold gs_isC; rw [hw, e4, en]; simp)
            · simp only [en, reduceIte]
              exact nx (by unfold gs_isC; simp [en])
          · have ec' : ca c' ≠ ca c := fun z => ec (R.2.2.1.inj hC' hC z)
            simp only [ec', reduceIte]
            exact nx (by unfold gs_isC; rw [hw]; simp [ec])
      · simp only [e4, reduceIte]
        exact nx (by unfold gs_isC; simp [e4])
  show gm_W E d 89 0 [.ref x, .ref (ca c), .int nm, gm_u] [] h Q
  simp only [r89_0, r89_1, r89_3, r89_3n, r89_4, r89_7, r89_10, r89_10n, r89_11, r89_14, r89_15, r89_16, r89_19, r89_20, r89_23, r89_23n, r89_24, r89_27, r89_28, r89_29, r89_32, r89_32n, r89_33, r89_33n, r89_33m, r89_33o, r89_36, r89_36n, r89_37, r89_40, r89_41, r89_42, r89_45, r89_46, r89_49, r89_50, r89_51, r89_54, r89_57, r89_60, r89_60i, r89_61, r89_62, r89_62n, r89_63, r89_67, r89_67n, r89_68, r89_68n, r89_69, r89_70, r89_73, r89_73n, r89_74, r89_74n, r89_78, i32_10, reduceIte, gm_cmp1, gm_cmp3, gm_cmp4, gm_kd_sf, gm_ln_sf, gm_sf_1, gm_sf_2, gm_nw_1, gm_nw_2, gm_k_int, gm_k_ref, gm_k_null, gm_k_u, gm_k_long, and_true, true_and, true_or, or_true, or_false, false_or, and_self, or_self, if_true, if_false, List.map_nil, List.map_cons, List.sum_nil, List.sum_cons, Nat.zero_le, Option.toList_some, Option.toList_none, List.cons_append, List.nil_append, ne_eq, not_false_eq_true, not_true_eq_false, nI_1, nI_add, Value.category, Nat.reduceAdd, Nat.reduceMod, Nat.reduceLeDiff, Nat.reduceLT, Nat.reduceEqDiff, Nat.reducePow, Nat.le_refl, Nat.add_left_cancel_iff, Nat.add_eq_left, Nat.left_eq_add, Nat.add_zero]
  exact loop (gs_hp s).length 0 gm_u (by omega) (fun i hi z => by omega)
theorem gs_addE_hp {v : Int32} {e : Nat} {s1 : gs_S} (w : gs_addE v s = .ok (e, s1)) : gs_hp s1 = gs_hp s := by rw [(gs_addE_ok w).2]; rfl
theorem x_readConstant (C : gx_RC E x ca K d0 (dp + 1) rc) (hK : gs_kok K) (hdp : dp < 1000) (hd : d0 + 16 ≤ d) (R : gx_R E h x ca K F s) (hF : ∀ a, F a → a < h.1) :
    gm_Ca E d 87 [.ref x, .int (nI dp)] h (gx_P E h x ca K F G s (fun a _ v => v = some (.int a)) (gs_con1 K rc dp s)) := by
  obtain ⟨res, hres⟩ : ∃ res, res = gs_con1 K rc dp s := ⟨_, rfl⟩
  rw [← hres]
  unfold gs_con1 at hres
  show gm_W E d 87 0 [.ref x, .int (nI dp), gm_u, gm_u, gm_u] [] h _
  simp only [r87_0, r87_0n, r87_1, r87_5, r87_5n, r87_6, r87_6n, r87_7, r87_7n, r87_8, r87_9, r87_13, r87_13n, r87_17, r87_20, r87_20n, r87_21, r87_26, r87_27, r87_27n, r87_28, r87_31n, r87_31, r87_34, r87_34n, r87_35, r87_40, r87_41, r87_41n, r87_42, r87_47, r87_48, r87_48n, r87_49, r87_49n, r87_50, r87_51, r87_52, r87_59, r87_61, r87_66, r87_69, r87_69n, r87_70, r87_73, r87_76, r87_78, r87_79, r87_80, r87_81, r87_84, r87_84n, r87_85, r87_90, r87_91, r87_91n, r87_92, r87_95, r87_98, r87_99, r87_99n, r87_100, r87_100n, r87_101, r87_104, r87_109, r87_110, r87_110n, r87_111, r87_114, r87_117, r87_118, r87_119, i32_10, reduceIte, gm_cmp1, gm_cmp3, gm_cmp4, gm_kd_sf, gm_ln_sf, gm_sf_1, gm_sf_2, gm_nw_1, gm_nw_2, gm_k_int, gm_k_ref, gm_k_null, gm_k_u, gm_k_long, and_true, true_and, true_or, or_true, or_false, false_or, and_self, or_self, if_true, if_false, List.map_nil, List.map_cons, List.sum_nil, List.sum_cons, Nat.zero_le, Option.toList_some, Option.toList_none, List.cons_append, List.nil_append, ne_eq, not_false_eq_true, not_true_eq_false, nI_1, nI_add, Value.category, Nat.reduceAdd, Nat.reduceMod, Nat.reduceLeDiff, Nat.reduceLT, Nat.reduceEqDiff, Nat.reducePow, Nat.le_refl, Nat.add_left_cancel_iff, Nat.add_eq_left, Nat.left_eq_add, Nat.add_zero]
  refine c87_2 (by simp) R.1.1 (by omega) (x_readPresent (G := fun _ => False) C hK.1 hdp (by omega) R hF) (fun v h1 q => ?_) (fun _ _ q => q.er (s := s) (h := h) (fun f e => by rw [hres]; exact gs_have_er e) ⟨gx_mv.refl, gx_le.refl, gx_co.refl⟩ (fun _ z => z.elim))
  obtain ⟨⟨l, L⟩, s1, e1, ⟨⟨a, rfl, ds⟩, sur⟩, R1, mv1, le1, co1⟩ := q
  have sur1 := (sur s1 e1).1
  rw [gs_have_ok e1] at hres
  have st1 : gx_st h s x G h1 s1 := ⟨mv1.wk (fun _ z => z.elim), le1, co1⟩
  have hF1 : ∀ a, F a → a < h1.1 := fun a z => by have := hF a z; have := mv1.1.1; omega
  simp only [r87_0, r87_0n, r87_1, r87_5, r87_5n, r87_6, r87_6n, r87_7, r87_7n, r87_8, r87_9, r87_13, r87_13n, r87_17, r87_20, r87_20n, r87_21, r87_26, r87_27, r87_27n, r87_28, r87_31n, r87_31, r87_34, r87_34n, r87_35, r87_40, r87_41, r87_41n, r87_42, r87_47, r87_48, r87_48n, r87_49, r87_49n, r87_50, r87_51, r87_52, r87_59, r87_61, r87_66, r87_69, r87_69n, r87_70, r87_73, r87_76, r87_78, r87_79, r87_80, r87_81, r87_84, r87_84n, r87_85, r87_90, r87_91, r87_91n, r87_92, r87_95, r87_98, r87_99, r87_99n, r87_100, r87_100n, r87_101, r87_104, r87_109, r87_110, r87_110n, r87_111, r87_114, r87_117, r87_118, r87_119, i32_10, reduceIte, gm_cmp1, gm_cmp3, gm_cmp4, gm_kd_sf, gm_ln_sf, gm_sf_1, gm_sf_2, gm_nw_1, gm_nw_2, gm_k_int, gm_k_ref, gm_k_null, gm_k_u, gm_k_long, and_true, true_and, true_or, or_true, or_false, false_or, and_self, or_self, if_true, if_false, List.map_nil, List.map_cons, List.sum_nil, List.sum_cons, Nat.zero_le, Option.toList_some, Option.toList_none, List.cons_append, List.nil_append, ne_eq, not_false_eq_true, not_true_eq_false, nI_1, nI_add, Value.category, Nat.reduceAdd, Nat.reduceMod, Nat.reduceLeDiff, Nat.reduceLT, Nat.reduceEqDiff, Nat.reducePow, Nat.le_refl, Nat.add_left_cancel_iff, Nat.add_eq_left, Nat.left_eq_add, Nat.add_zero]
  refine c87_10 (by simp) (by simp [gm_en1]) R1.1.1 (by omega) (x_askLimits (G := fun _ => False) (by omega) hdp R1 ds) (fun v h2 q => ?_) (fun _ _ q => q.er (fun f e => by rw [hres]; exact gs_b_er e) st1 (fun _ z => z.elim))
  obtain ⟨_, s2, e2, ⟨rfl, na2⟩, R2, mv2, le2, co2⟩ := q
  rw [gs_b_ok e2] at hres
  have st2 := st1.trans mv2 le2 co2 (fun _ z => z.elim)
  have es2 : s2 = s1 := by
    unfold gs_lim at e2
    split at e2
    · cases e2
    · cases e2; rfl
  subst es2
  have ds2 : gx_ds h2 x ca K F (l :: L) (.ref a) := ds.tr (mv2.1.wk (fun _ z => z.elim))
  have ds2' := ds2
  obtain ⟨a', u, w, ea, o1, o2, o3, d1, d2, d3, d4, d5, d6, d7, d8, d9, d10, d11, d12, d13, d14, d15, d16, d17, d18, d19⟩ := ds2'
  cases ea
  have fail : ∀ (f : Int32) (pc : Nat), res = .error f → True := fun _ _ _ => trivial
  clear fail
  simp only [r87_0, r87_0n, r87_1, r87_5, r87_5n, r87_6, r87_6n, r87_7, r87_7n, r87_8, r87_9, r87_13, r87_13n, r87_17, r87_20, r87_20n, r87_21, r87_26, r87_27, r87_27n, r87_28, r87_31n, r87_31, r87_34, r87_34n, r87_35, r87_40, r87_41, r87_41n, r87_42, r87_47, r87_48, r87_48n, r87_49, r87_49n, r87_50, r87_51, r87_52, r87_59, r87_61, r87_66, r87_69, r87_69n, r87_70, r87_73, r87_76, r87_78, r87_79, r87_80, r87_81, r87_84, r87_84n, r87_85, r87_90, r87_91, r87_91n, r87_92, r87_95, r87_98, r87_99, r87_99n, r87_100, r87_100n, r87_101, r87_104, r87_109, r87_110, r87_110n, r87_111, r87_114, r87_117, r87_118, r87_119, i32_10, reduceIte, gm_cmp1, gm_cmp3, gm_cmp4, gm_kd_sf, gm_ln_sf, gm_sf_1, gm_sf_2, gm_nw_1, gm_nw_2, gm_k_int, gm_k_ref, gm_k_null, gm_k_u, gm_k_long, and_true, true_and, true_or, or_true, or_false, false_or, and_self, or_self, if_true, if_false, List.map_nil, List.map_cons, List.sum_nil, List.sum_cons, Nat.zero_le, Option.toList_some, Option.toList_none, List.cons_append, List.nil_append, ne_eq, not_false_eq_true, not_true_eq_false, nI_1, nI_add, Value.category, Nat.reduceAdd, Nat.reduceMod, Nat.reduceLeDiff, Nat.reduceLT, Nat.reduceEqDiff, Nat.reducePow, Nat.le_refl, Nat.add_left_cancel_iff, Nat.add_eq_left, Nat.left_eq_add, Nat.add_zero]
  refine c87_14 (by simp) d1 (by omega) (x_isConstant (by omega) d1 d5) (gx_kn ?_) gx_kx
  have el : gs_fl (l, L).fst = gs_fl l := rfl
  rw [el]
  by_cases h16 : gs_fl l &&& 16 = 0
  · rw [if_pos h16] at hres
    simp only [r87_0, r87_0n, r87_1, r87_5, r87_5n, r87_6, r87_6n, r87_7, r87_7n, r87_8, r87_9, r87_13, r87_13n, r87_17, r87_20, r87_20n, r87_21, r87_26, r87_27, r87_27n, r87_28, r87_31n, r87_31, r87_34, r87_34n, r87_35, r87_40, r87_41, r87_41n, r87_42, r87_47, r87_48, r87_48n, r87_49, r87_49n, r87_50, r87_51, r87_52, r87_59, r87_61, r87_66, r87_69, r87_69n, r87_70, r87_73, r87_76, r87_78, r87_79, r87_80, r87_81, r87_84, r87_84n, r87_85, r87_90, r87_91, r87_91n, r87_92, r87_95, r87_98, r87_99, r87_99n, r87_100, r87_100n, r87_101, r87_104, r87_109, r87_110, r87_110n, r87_111, r87_114, r87_117, r87_118, r87_119, i32_10, reduceIte, gm_cmp1, gm_cmp3, gm_cmp4, gm_kd_sf, gm_ln_sf, gm_sf_1, gm_sf_2, gm_nw_1, gm_nw_2, gm_k_int, gm_k_ref, gm_k_null, gm_k_u, gm_k_long, and_true, true_and, true_or, or_true, or_false, false_or, and_self, or_self, if_true, if_false, List.map_nil, List.map_cons, List.sum_nil, List.sum_cons, Nat.zero_le, Option.toList_some, Option.toList_none, List.cons_append, List.nil_append, ne_eq, not_false_eq_true, not_true_eq_false, nI_1, nI_add, Value.category, Nat.reduceAdd, Nat.reduceMod, Nat.reduceLeDiff, Nat.reduceLT, Nat.reduceEqDiff, Nat.reducePow, Nat.le_refl, Nat.add_left_cancel_iff, Nat.add_eq_left, Nat.left_eq_add, Nat.add_zero, h16]
    exact c87_23 (by simp) R2.1.1 (by omega) (x_fail (G := G) (α := Unit) (val := fun _ _ _ => True) R2) gx_fn (fun _ _ q => q.er (fun f e => by cases e; rw [hres]; rfl) st2 (fun _ z => Or.inr z))
  rw [if_neg h16] at hres
  cases how : gs_own l with
  | none =>
    rw [how] at hres
    have d10 : gm_fv h2 a 9 = .null := by rw [d10]; show gx_ow ca (gs_own l) = _; rw [how]; rfl
    simp only [r87_0, r87_0n, r87_1, r87_5, r87_5n, r87_6, r87_6n, r87_7, r87_7n, r87_8, r87_9, r87_13, r87_13n, r87_17, r87_20, r87_20n, r87_21, r87_26, r87_27, r87_27n, r87_28, r87_31n, r87_31, r87_34, r87_34n, r87_35, r87_40, r87_41, r87_41n, r87_42, r87_47, r87_48, r87_48n, r87_49, r87_49n, r87_50, r87_51, r87_52, r87_59, r87_61, r87_66, r87_69, r87_69n, r87_70, r87_73, r87_76, r87_78, r87_79, r87_80, r87_81, r87_84, r87_84n, r87_85, r87_90, r87_91, r87_91n, r87_92, r87_95, r87_98, r87_99, r87_99n, r87_100, r87_100n, r87_101, r87_104, r87_109, r87_110, r87_110n, r87_111, r87_114, r87_117, r87_118, r87_119, i32_10, reduceIte, gm_cmp1, gm_cmp3, gm_cmp4, gm_kd_sf, gm_ln_sf, gm_sf_1, gm_sf_2, gm_nw_1, gm_nw_2, gm_k_int, gm_k_ref, gm_k_null, gm_k_u, gm_k_long, and_true, true_and, true_or, or_true, or_false, false_or, and_self, or_self, if_true, if_false, List.map_nil, List.map_cons, List.sum_nil, List.sum_cons, Nat.zero_le, Option.toList_some, Option.toList_none, List.cons_append, List.nil_append, ne_eq, not_false_eq_true, not_true_eq_false, nI_1, nI_add, Value.category, Nat.reduceAdd, Nat.reduceMod, Nat.reduceLeDiff, Nat.reduceLT, Nat.reduceEqDiff, Nat.reducePow, Nat.le_refl, Nat.add_left_cancel_iff, Nat.add_eq_left, Nat.left_eq_add, Nat.add_zero, h16, d1, d10]
    exact c87_37 (by simp) R2.1.1 (by omega) (x_fail (G := G) (α := Unit) (val := fun _ _ _ => True) R2) gx_fn (fun _ _ q => q.er (fun f e => by cases e; rw [hres]; rfl) st2 (fun _ z => Or.inr z))
  | some c =>
    rw [how] at hres
    have d10 : gm_fv h2 a 9 = .ref (ca c) := by rw [d10]; show gx_ow ca (gs_own l) = _; rw [how]; rfl
    obtain ⟨hc6, hcs⟩ := d17 c how
    obtain ⟨Cc, hC⟩ := Option.isSome_iff_exists.mp hcs
    simp only [r87_0, r87_0n, r87_1, r87_5, r87_5n, r87_6, r87_6n, r87_7, r87_7n, r87_8, r87_9, r87_13, r87_13n, r87_17, r87_20, r87_20n, r87_21, r87_26, r87_27, r87_27n, r87_28, r87_31n, r87_31, r87_34, r87_34n, r87_35, r87_40, r87_41, r87_41n, r87_42, r87_47, r87_48, r87_48n, r87_49, r87_49n, r87_50, r87_51, r87_52, r87_59, r87_61, r87_66, r87_69, r87_69n, r87_70, r87_73, r87_76, r87_78, r87_79, r87_80, r87_81, r87_84, r87_84n, r87_85, r87_90, r87_91, r87_91n, r87_92, r87_95, r87_98, r87_99, r87_99n, r87_100, r87_100n, r87_101, r87_104, r87_109, r87_110, r87_110n, r87_111, r87_114, r87_117, r87_118, r87_119, i32_10, reduceIte, gm_cmp1, gm_cmp3, gm_cmp4, gm_kd_sf, gm_ln_sf, gm_sf_1, gm_sf_2, gm_nw_1, gm_nw_2, gm_k_int, gm_k_ref, gm_k_null, gm_k_u, gm_k_long, and_true, true_and, true_or, or_true, or_false, false_or, and_self, or_self, if_true, if_false, List.map_nil, List.map_cons, List.sum_nil, List.sum_cons, Nat.zero_le, Option.toList_some, Option.toList_none, List.cons_append, List.nil_append, ne_eq, not_false_eq_true, not_true_eq_false, nI_1, nI_add, Value.category, Nat.reduceAdd, Nat.reduceMod, Nat.reduceLeDiff, Nat.reduceLT, Nat.reduceEqDiff, Nat.reducePow, Nat.le_refl, Nat.add_left_cancel_iff, Nat.add_eq_left, Nat.left_eq_add, Nat.add_zero, h16, d1, d10]
    refine c87_44 (by simp) R2.1.1 (by omega) (x_addEntry (G := fun _ => False) (by omega) R2) (fun v h3 q => ?_) (fun _ _ q => q.er (fun f e => by rw [hres]; exact gs_b_er e) st2 (fun _ z => z.elim))
    obtain ⟨e, s3, e3, ⟨rfl, na3⟩, R3, mv3, le3, co3⟩ := q
    try dsimp only at hres
    rw [gs_b_ok e3] at hres
    obtain ⟨ee, es3⟩ := gs_addE_ok e3
    have st3 := st2.trans mv3 le3 co3 (fun _ z => z.elim)
    have h12 : h1.1 ≤ h2.1 := mv2.1.1
    have h23 : h2.1 ≤ h3.1 := mv3.1.1
    have hF3 : ∀ a, F a → a < h3.1 := fun a z => by have := hF1 a z; omega
    simp only [r87_0, r87_0n, r87_1, r87_5, r87_5n, r87_6, r87_6n, r87_7, r87_7n, r87_8, r87_9, r87_13, r87_13n, r87_17, r87_20, r87_20n, r87_21, r87_26, r87_27, r87_27n, r87_28, r87_31n, r87_31, r87_34, r87_34n, r87_35, r87_40, r87_41, r87_41n, r87_42, r87_47, r87_48, r87_48n, r87_49, r87_49n, r87_50, r87_51, r87_52, r87_59, r87_61, r87_66, r87_69, r87_69n, r87_70, r87_73, r87_76, r87_78, r87_79, r87_80, r87_81, r87_84, r87_84n, r87_85, r87_90, r87_91, r87_91n, r87_92, r87_95, r87_98, r87_99, r87_99n, r87_100, r87_100n, r87_101, r87_104, r87_109, r87_110, r87_110n, r87_111, r87_114, r87_117, r87_118, r87_119, i32_10, reduceIte, gm_cmp1, gm_cmp3, gm_cmp4, gm_kd_sf, gm_ln_sf, gm_sf_1, gm_sf_2, gm_nw_1, gm_nw_2, gm_k_int, gm_k_ref, gm_k_null, gm_k_u, gm_k_long, and_true, true_and, true_or, or_true, or_false, false_or, and_self, or_self, if_true, if_false, List.map_nil, List.map_cons, List.sum_nil, List.sum_cons, Nat.zero_le, Option.toList_some, Option.toList_none, List.cons_append, List.nil_append, ne_eq, not_false_eq_true, not_true_eq_false, nI_1, nI_add, Value.category, Nat.reduceAdd, Nat.reduceMod, Nat.reduceLeDiff, Nat.reduceLT, Nat.reduceEqDiff, Nat.reducePow, Nat.le_refl, Nat.add_left_cancel_iff, Nat.add_eq_left, Nat.left_eq_add, Nat.add_zero]
    refine c87_53 (by simp [Value.category]) R3.1.1 (by omega) (C (d - 1) h3 s3 F (fun _ => False) (by omega) R3 hF3) (fun v h4 q => ?_) (fun _ _ q => q.er (fun f e => by rw [hres]; exact gs_b_er e) st3 (fun _ z => z.elim))
    obtain ⟨v, s4, e4, rfl, R4, mv4, le4, co4⟩ := q
    rw [gs_b_ok e4] at hres
    have st4 := st3.trans mv4 le4 co4 (fun _ z => z.elim)
    have h34 : h3.1 ≤ h4.1 := mv4.1.1
    have hF4 : ∀ a, F a → a < h4.1 := fun a z => by have := hF3 a z; omega
    have ds4 : gx_ds h4 x ca K F (l :: L) (.ref a) := (ds2.tr (mv3.1.wk (fun _ z => z.elim))).tr (mv4.1.wk (fun _ z => z.elim))
    obtain ⟨a', u4, w4, ea, -, -, -, k4, -, -, -, -, -, -, -, -, f49, -⟩ := ds4
    cases ea
    have f49 : gm_fv h4 a 9 = .ref (ca c) := by rw [f49]; show gx_ow ca (gs_own l) = _; rw [how]; rfl
    obtain ⟨-, -, -, kc, -, -, -, -, -, -, -, -, fc8, -⟩ := R4.2.2.1.at hC
    simp only [i32_10, reduceIte, gm_cmp1, gm_cmp3, gm_cmp4, gm_kd_sf, gm_ln_sf, gm_sf_1, gm_sf_2, gm_nw_1, gm_nw_2, gm_k_int, gm_k_ref, gm_k_null, gm_k_u, gm_k_long, and_true, true_and, true_or, or_true, or_false, false_or, and_self, or_self, if_true, if_false, List.map_nil, List.map_cons, List.sum_nil, List.sum_cons, Nat.zero_le, Option.toList_some, Option.toList_none, List.cons_append, List.nil_append, ne_eq, not_false_eq_true, not_true_eq_false, nI_1, nI_add, Value.category, Nat.reduceAdd, Nat.reduceMod, Nat.reduceLeDiff, Nat.reduceLT, Nat.reduceEqDiff, Nat.reducePow, Nat.le_refl, Nat.add_left_cancel_iff, Nat.add_eq_left, Nat.left_eq_add, Nat.add_zero]
    refine c87_56 (by simp) R4.1.1 (by omega) (x_constantName (by omega) R4) (gx_kn ?_) gx_kx
    obtain ⟨nm, hnm⟩ : ∃ nm, nm = gs_cname s4 v := ⟨_, rfl⟩
    rw [← hnm]
    try dsimp only at hres
    rw [← hnm, hC, show (some Cc).elim 0 gs_con = gs_con Cc from rfl] at hres
    simp only [r87_0, r87_0n, r87_1, r87_5, r87_5n, r87_6, r87_6n, r87_7, r87_7n, r87_8, r87_9, r87_13, r87_13n, r87_17, r87_20, r87_20n, r87_21, r87_26, r87_27, r87_27n, r87_28, r87_31n, r87_31, r87_34, r87_34n, r87_35, r87_40, r87_41, r87_41n, r87_42, r87_47, r87_48, r87_48n, r87_49, r87_49n, r87_50, r87_51, r87_52, r87_59, r87_61, r87_66, r87_69, r87_69n, r87_70, r87_73, r87_76, r87_78, r87_79, r87_80, r87_81, r87_84, r87_84n, r87_85, r87_90, r87_91, r87_91n, r87_92, r87_95, r87_98, r87_99, r87_99n, r87_100, r87_100n, r87_101, r87_104, r87_109, r87_110, r87_110n, r87_111, r87_114, r87_117, r87_118, r87_119, i32_10, reduceIte, gm_cmp1, gm_cmp3, gm_cmp4, gm_kd_sf, gm_ln_sf, gm_sf_1, gm_sf_2, gm_nw_1, gm_nw_2, gm_k_int, gm_k_ref, gm_k_null, gm_k_u, gm_k_long, and_true, true_and, true_or, or_true, or_false, false_or, and_self, or_self, if_true, if_false, List.map_nil, List.map_cons, List.sum_nil, List.sum_cons, Nat.zero_le, Option.toList_some, Option.toList_none, List.cons_append, List.nil_append, ne_eq, not_false_eq_true, not_true_eq_false, nI_1, nI_add, Value.category, Nat.reduceAdd, Nat.reduceMod, Nat.reduceLeDiff, Nat.reduceLT, Nat.reduceEqDiff, Nat.reducePow, Nat.le_refl, Nat.add_left_cancel_iff, Nat.add_eq_left, Nat.left_eq_add, Nat.add_zero]
    refine c87_63 (by simp) (by omega) (x_isName nm) (gx_kn ?_) gx_kx
    have bad : res = .error (-6) → gm_W E d 87 84 [.ref x, .int (nI dp), .ref a, .int (nI e), .int nm] [] h4 (gx_P E h x ca K F G s (fun a _ v => v = some (.int a)) res) := by
      intro er
      simp only [r87_0, r87_0n, r87_1, r87_5, r87_5n, r87_6, r87_6n, r87_7, r87_7n, r87_8, r87_9, r87_13, r87_13n, r87_17, r87_20, r87_20n, r87_21, r87_26, r87_27, r87_27n, r87_28, r87_31n, r87_31, r87_34, r87_34n, r87_35, r87_40, r87_41, r87_41n, r87_42, r87_47, r87_48, r87_48n, r87_49, r87_49n, r87_50, r87_51, r87_52, r87_59, r87_61, r87_66, r87_69, r87_69n, r87_70, r87_73, r87_76, r87_78, r87_79, r87_80, r87_81, r87_84, r87_84n, r87_85, r87_90, r87_91, r87_91n, r87_92, r87_95, r87_98, r87_99, r87_99n, r87_100, r87_100n, r87_101, r87_104, r87_109, r87_110, r87_110n, r87_111, r87_114, r87_117, r87_118, r87_119, i32_10, reduceIte, gm_cmp1, gm_cmp3, gm_cmp4, gm_kd_sf, gm_ln_sf, gm_sf_1, gm_sf_2, gm_nw_1, gm_nw_2, gm_k_int, gm_k_ref, gm_k_null, gm_k_u, gm_k_long, and_true, true_and, true_or, or_true, or_false, false_or, and_self, or_self, if_true, if_false, List.map_nil, List.map_cons, List.sum_nil, List.sum_cons, Nat.zero_le, Option.toList_some, Option.toList_none, List.cons_append, List.nil_append, ne_eq, not_false_eq_true, not_true_eq_false, nI_1, nI_add, Value.category, Nat.reduceAdd, Nat.reduceMod, Nat.reduceLeDiff, Nat.reduceLT, Nat.reduceEqDiff, Nat.reducePow, Nat.le_refl, Nat.add_left_cancel_iff, Nat.add_eq_left, Nat.left_eq_add, Nat.add_zero]
      exact c87_87 (by simp) R4.1.1 (by omega) (x_fail (G := G) (α := Unit) (val := fun _ _ _ => True) R4) gx_fn (fun _ _ q => q.er (fun f e => by cases e; exact er) st4 (fun _ z => Or.inr z))
    by_cases n1 : nm < 0
    · rw [if_pos (Or.inl n1)] at hres
      simp only [r87_0, r87_0n, r87_1, r87_5, r87_5n, r87_6, r87_6n, r87_7, r87_7n, r87_8, r87_9, r87_13, r87_13n, r87_17, r87_20, r87_20n, r87_21, r87_26, r87_27, r87_27n, r87_28, r87_31n, r87_31, r87_34, r87_34n, r87_35, r87_40, r87_41, r87_41n, r87_42, r87_47, r87_48, r87_48n, r87_49, r87_49n, r87_50, r87_51, r87_52, r87_59, r87_61, r87_66, r87_69, r87_69n, r87_70, r87_73, r87_76, r87_78, r87_79, r87_80, r87_81, r87_85, r87_90, r87_91, r87_91n, r87_92, r87_95, r87_98, r87_99, r87_99n, r87_100, r87_100n, r87_101, r87_104, r87_109, r87_110, r87_110n, r87_111, r87_114, r87_117, r87_118, r87_119, i32_10, reduceIte, gm_cmp1, gm_cmp3, gm_cmp4, gm_kd_sf, gm_ln_sf, gm_sf_1, gm_sf_2, gm_nw_1, gm_nw_2, gm_k_int, gm_k_ref, gm_k_null, gm_k_u, gm_k_long, and_true, true_and, true_or, or_true, or_false, false_or, and_self, or_self, if_true, if_false, List.map_nil, List.map_cons, List.sum_nil, List.sum_cons, Nat.zero_le, Option.toList_some, Option.toList_none, List.cons_append, List.nil_append, ne_eq, not_false_eq_true, not_true_eq_false, nI_1, nI_add, Value.category, Nat.reduceAdd, Nat.reduceMod, Nat.reduceLeDiff, Nat.reduceLT, Nat.reduceEqDiff, Nat.reducePow, Nat.le_refl, Nat.add_left_cancel_iff, Nat.add_eq_left, Nat.left_eq_add, Nat.add_zero, n1]
      exact bad hres
    by_cases n2 : 26 ≤ nm
    · rw [if_pos (Or.inr (Or.inl n2))] at hres
      simp only [r87_0, r87_0n, r87_1, r87_5, r87_5n, r87_6, r87_6n, r87_7, r87_7n, r87_8, r87_9, r87_13, r87_13n, r87_17, r87_20, r87_20n, r87_21, r87_26, r87_27, r87_27n, r87_28, r87_31n, r87_31, r87_34, r87_34n, r87_35, r87_40, r87_41, r87_41n, r87_42, r87_47, r87_48, r87_48n, r87_49, r87_49n, r87_50, r87_51, r87_52, r87_59, r87_61, r87_66, r87_69, r87_69n, r87_70, r87_73, r87_76, r87_78, r87_79, r87_80, r87_81, r87_85, r87_90, r87_91, r87_91n, r87_92, r87_95, r87_98, r87_99, r87_99n, r87_100, r87_100n, r87_101, r87_104, r87_109, r87_110, r87_110n, r87_111, r87_114, r87_117, r87_118, r87_119, i32_10, reduceIte, gm_cmp1, gm_cmp3, gm_cmp4, gm_kd_sf, gm_ln_sf, gm_sf_1, gm_sf_2, gm_nw_1, gm_nw_2, gm_k_int, gm_k_ref, gm_k_null, gm_k_u, gm_k_long, and_true, true_and, true_or, or_true, or_false, false_or, and_self, or_self, if_true, if_false, List.map_nil, List.map_cons, List.sum_nil, List.sum_cons, Nat.zero_le, Option.toList_some, Option.toList_none, List.cons_append, List.nil_append, ne_eq, not_false_eq_true, not_true_eq_false, nI_1, nI_add, Value.category, Nat.reduceAdd, Nat.reduceMod, Nat.reduceLeDiff, Nat.reduceLT, Nat.reduceEqDiff, Nat.reducePow, Nat.le_refl, Nat.add_left_cancel_iff, Nat.add_eq_left, Nat.left_eq_add, Nat.add_zero, n1, n2]
      exact bad hres
    by_cases n3 : (gs_con Cc >>> (nm &&& 31)) &&& 1 = 0
    · rw [if_pos (Or.inr (Or.inr n3))] at hres
      simp only [r87_0, r87_0n, r87_1, r87_5, r87_5n, r87_6, r87_6n, r87_7, r87_7n, r87_8, r87_9, r87_13, r87_13n, r87_17, r87_20, r87_20n, r87_21, r87_26, r87_27, r87_27n, r87_28, r87_31n, r87_31, r87_34, r87_34n, r87_35, r87_40, r87_41, r87_41n, r87_42, r87_47, r87_48, r87_48n, r87_49, r87_49n, r87_50, r87_51, r87_52, r87_59, r87_61, r87_66, r87_69, r87_69n, r87_70, r87_73, r87_76, r87_78, r87_79, r87_80, r87_81, r87_85, r87_90, r87_91, r87_91n, r87_92, r87_95, r87_98, r87_99, r87_99n, r87_100, r87_100n, r87_101, r87_104, r87_109, r87_110, r87_110n, r87_111, r87_114, r87_117, r87_118, r87_119, i32_10, reduceIte, gm_cmp1, gm_cmp3, gm_cmp4, gm_kd_sf, gm_ln_sf, gm_sf_1, gm_sf_2, gm_nw_1, gm_nw_2, gm_k_int, gm_k_ref, gm_k_null, gm_k_u, gm_k_long, and_true, true_and, true_or, or_true, or_false, false_or, and_self, or_self, if_true, if_false, List.map_nil, List.map_cons, List.sum_nil, List.sum_cons, Nat.zero_le, Option.toList_some, Option.toList_none, List.cons_append, List.nil_append, ne_eq, not_false_eq_true, not_true_eq_false, nI_1, nI_add, Value.category, Nat.reduceAdd, Nat.reduceMod, Nat.reduceLeDiff, Nat.reduceLT, Nat.reduceEqDiff, Nat.reducePow, Nat.le_refl, Nat.add_left_cancel_iff, Nat.add_eq_left, Nat.left_eq_add, Nat.add_zero, n1, n2, k4, f49, kc, fc8, n3]
      exact bad hres
    rw [if_neg (fun z => z.elim n1 (fun y => y.elim n2 n3))] at hres
    obtain ⟨A0, -, -, -, A10, -, -, -, -, -, -, A4, A40, -⟩ := R4.1
    simp only [r87_0, r87_0n, r87_1, r87_5, r87_5n, r87_6, r87_6n, r87_7, r87_7n, r87_8, r87_9, r87_13, r87_13n, r87_17, r87_20, r87_20n, r87_21, r87_26, r87_27, r87_27n, r87_28, r87_31n, r87_31, r87_34, r87_34n, r87_35, r87_40, r87_41, r87_41n, r87_42, r87_47, r87_48, r87_48n, r87_49, r87_49n, r87_50, r87_51, r87_52, r87_59, r87_61, r87_66, r87_69, r87_69n, r87_70, r87_73, r87_76, r87_78, r87_79, r87_80, r87_81, r87_85, r87_90, r87_91, r87_91n, r87_92, r87_95, r87_98, r87_99, r87_99n, r87_100, r87_100n, r87_101, r87_104, r87_109, r87_110, r87_110n, r87_111, r87_114, r87_117, r87_118, r87_119, i32_10, reduceIte, gm_cmp1, gm_cmp3, gm_cmp4, gm_kd_sf, gm_ln_sf, gm_sf_1, gm_sf_2, gm_nw_1, gm_nw_2, gm_k_int, gm_k_ref, gm_k_null, gm_k_u, gm_k_long, and_true, true_and, true_or, or_true, or_false, false_or, and_self, or_self, if_true, if_false, List.map_nil, List.map_cons, List.sum_nil, List.sum_cons, Nat.zero_le, Option.toList_some, Option.toList_none, List.cons_append, List.nil_append, ne_eq, not_false_eq_true, not_true_eq_false, nI_1, nI_add, Value.category, Nat.reduceAdd, Nat.reduceMod, Nat.reduceLeDiff, Nat.reduceLT, Nat.reduceEqDiff, Nat.reducePow, Nat.le_refl, Nat.add_left_cancel_iff, Nat.add_eq_left, Nat.left_eq_add, Nat.add_zero, n1, n2, k4, f49, kc, fc8, n3, A0, A10, A4, A40]
    refine c87_106 (by simp [Value.category]) (by simp [gm_en1]) A0 (by omega) (x_onlyConstant (G := fun _ => False) (by omega) R4 hC hF4) (fun v h5 q => ?_) (fun v h5 q => ?_)
    · cases eo : gs_only c nm s4 with
      | error f =>
        rw [eo] at q
        obtain ⟨⟨_, q⟩, _⟩ := q
        cases q
      | ok p =>
        obtain ⟨o, s5⟩ := p
        rw [eo] at q
        dsimp only at q
        obtain ⟨q1, R5, mv5, le5, c5, c5', p5, hs5⟩ := q
        cases q1
        rw [gs_b_ok eo] at hres
        have hle : (gs_hs s).length ≤ e := by have := st2.2.1.2; omega
        have hlt : e < (gs_hs s5).length := by
          have h1 := le4.2
          have h5 : (gs_hs s3).length = (gs_hs s2).length + 1 := by rw [es3]; simp [gs_hs]
          rw [hs5]
          omega
        obtain ⟨A0, -, -, -, A10, -, -, -, -, -, -, A4, A40, -, A5, A5l, -⟩ := R5.1
        have h234 := R5.2.2.2.1.2.2.2.2.2.2.2.1
        have he2 : e < 234 := by omega
        have n05 : x ≠ x + 5 := by omega
        have n45 : x + 4 ≠ x + 5 := by omega
        have e55 : gm_fv (gm_sf h5 (x + 5) e (.int (nI o))) (x + 5) e = .int (nI o) := gm_fv_sf (by omega)
        simp only [r87_0, r87_0n, r87_1, r87_5, r87_5n, r87_6, r87_6n, r87_7, r87_7n, r87_8, r87_9, r87_13, r87_13n, r87_17, r87_20, r87_20n, r87_21, r87_26, r87_27, r87_27n, r87_28, r87_31n, r87_31, r87_34, r87_34n, r87_35, r87_40, r87_41, r87_41n, r87_42, r87_47, r87_48, r87_48n, r87_49, r87_49n, r87_50, r87_51, r87_52, r87_59, r87_61, r87_66, r87_69, r87_69n, r87_70, r87_73, r87_76, r87_78, r87_79, r87_80, r87_81, r87_84, r87_84n, r87_85, r87_90, r87_91, r87_91n, r87_92, r87_95, r87_98, r87_99, r87_99n, r87_100, r87_100n, r87_101, r87_104, r87_109, r87_110, r87_110n, r87_111, r87_114, r87_117, r87_118, r87_119, i32_10, reduceIte, gm_cmp1, gm_cmp3, gm_cmp4, gm_kd_sf, gm_ln_sf, gm_sf_1, gm_sf_2, gm_nw_1, gm_nw_2, gm_k_int, gm_k_ref, gm_k_null, gm_k_u, gm_k_long, and_true, true_and, true_or, or_true, or_false, false_or, and_self, or_self, if_true, if_false, List.map_nil, List.map_cons, List.sum_nil, List.sum_cons, Nat.zero_le, Option.toList_some, Option.toList_none, List.cons_append, List.nil_append, ne_eq, not_false_eq_true, not_true_eq_false, nI_1, nI_add, Value.category, Nat.reduceAdd, Nat.reduceMod, Nat.reduceLeDiff, Nat.reduceLT, Nat.reduceEqDiff, Nat.reducePow, Nat.le_refl, Nat.add_left_cancel_iff, Nat.add_eq_left, Nat.left_eq_add, Nat.add_zero, A5, A5l, he2, gm_fv_sfa n05, gm_fv_sfa n45, A0, A10, A4, A40, e55]
        rw [hres]
        refine ⟨nI o, _, rfl, rfl, R5.setE hlt, ?_, ?_, ?_⟩
        · exact (st4.1.trans mv5 st4.2.1 (fun _ z => z.elim)).tr (gx_mv.obj hle)
        · refine st4.2.1.trans (le5.trans ⟨Nat.le_refl _, ?_⟩)
          simp [gs_hs]
        · obtain ⟨b1, b2⟩ := na2
          obtain ⟨b3, b4⟩ := co3
          obtain ⟨b5, b6⟩ := co4
          obtain ⟨b7, b8⟩ := sur1
          unfold gx_co
          simp only [gm_sf_1, gm_sf_2]
          show h5.1 + gs_pl s ≤ h.1 + gs_pl s5 ∧ h5.2.1 + 8 * gs_pl s ≤ h.2.1 + 8 * gs_pl s5
          omega
    · cases eo : gs_only c nm s4 with
      | ok p =>
        rw [eo] at q
        obtain ⟨q, _⟩ := q
        cases q
      | error f =>
        rw [eo] at q
        obtain ⟨-, E5, mv5, c5, c5'⟩ := q
        rw [hres]
        refine ⟨f, gs_b_er eo, E5, st4.1.trans mv5 st4.2.1 (fun _ z => z.elim), ?_⟩
        obtain ⟨b1, b2⟩ := na2
        obtain ⟨b3, b4⟩ := co3
        obtain ⟨b5, b6⟩ := co4
        obtain ⟨b7, b8⟩ := sur1
        unfold gx_cx
        omega
end Y7
