/-! THE CLASS, 20: read, from outside. -/
/-- the whole object: what a read leaves alone, place and heap and handles, the fault that lasts -/
def gx_X (E : Nat → Value) (h : gm_H) (x : Nat) (ca : Nat → Nat) (K : gs_K) (s : gs_S) (lf : Int32) : Prop := gx_R E h x ca K (fun _ => False) s ∧ gm_fv h x 11 = .int lf
def gs_read (K : gs_K) (s : gs_S) (lf : Int32) : Int32 × gs_S × Int32 := if lf ≠ 0 then (lf, s, lf) else match gs_out K s with
  | .ok q => (q.1, q.2, 0)
  | .error f => (f, s, if f = -7 then 0 else f)
section Z3
variable {E : Nat → Value} {d x : Nat} {h h1 : gm_H} {ca : Nat → Nat} {K : gs_K} {F G : Nat → Prop} {s : gs_S} {lf f : Int32}
/-- all put back as it was -/
theorem gx_R.back (R : gx_R E h x ca K F s) (E1 : gx_E h1 x K f) (mv : gx_mv h h1 x (fun _ => False) s) : gx_R E (gm_sf (gm_sf (gm_sf (gm_sf h1 x 7 (.int (nI (gs_pl s)))) x 9 (.int (nI (gs_hp s).length))) (x + 4) 2 (.int (nI (gs_f1 s)))) (x + 4) 3 (.int (nI (gs_hs s).length))) x ca K F s := by
  obtain ⟨A, B, f12⟩ := E1
  have l0 : gm_ln h1 x = 13 := gm_kd_ln A.1 (by decide)
  have l4 : gm_ln h1 (x + 4) = 4 := gm_kd_ln A.2.2.2.2.2.2.2.2.2.2.2.1 (by decide)
  have hf : ∀ b j, (b ≠ x ∨ (j ≠ 7 ∧ j ≠ 9)) → (b ≠ x + 4 ∨ (j ≠ 2 ∧ j ≠ 3)) → gm_fv (gm_sf (gm_sf (gm_sf (gm_sf h1 x 7 (.int (nI (gs_pl s)))) x 9 (.int (nI (gs_hp s).length))) (x + 4) 2 (.int (nI (gs_f1 s)))) (x + 4) 3 (.int (nI (gs_hs s).length))) b j = gm_fv h1 b j := by
    intro b j h0 h4
    have e1 : ∀ (hh : gm_H) (k : Nat) (v : Value), (k = 2 ∨ k = 3) → gm_fv (gm_sf hh (x + 4) k v) b j = gm_fv hh b j := fun hh k v hk => by
      rcases h4 with z | z
      · exact gm_fv_sfa z
      · exact gm_fv_sfj (by omega)
    have e2 : ∀ (hh : gm_H) (k : Nat) (v : Value), (k = 7 ∨ k = 9) → gm_fv (gm_sf hh x k v) b j = gm_fv hh b j := fun hh k v hk => by
      rcases h0 with z | z
      · exact gm_fv_sfa z
      · exact gm_fv_sfj (by omega)
    rw [e1 _ _ _ (Or.inr rfl), e1 _ _ _ (Or.inl rfl), e2 _ _ _ (Or.inr rfl), e2 _ _ _ (Or.inl rfl)]
  have g : gx_ag h (gm_sf (gm_sf (gm_sf (gm_sf h1 x 7 (.int (nI (gs_pl s)))) x 9 (.int (nI (gs_hp s).length))) (x + 4) 2 (.int (nI (gs_f1 s)))) (x + 4) 3 (.int (nI (gs_hs s).length))) x F := (((mv.1.wk (fun _ z => z.elim)).trans (gx_ag.sf (gx_ok.no (by omega)))).trans (gx_ag.sf (gx_ok.no (by omega)))).trans (gx_ag.sf (gx_ok.no (by omega))) |>.trans (gx_ag.sf (gx_ok.no (by omega)))
  obtain ⟨z1, z2, z3, z4, z5, z6, z7, z8, z9⟩ := R.2.2.2.1
  refine R.own g ?_ ?_ (fun c _ => by rw [hf _ _ (Or.inl (by omega)) (Or.inl (by omega))]; exact mv.2.1 c) ⟨?_, z2, ?_, z4, ?_, ?_, z7, z8, f, ?_⟩ (fun i hi => by rw [hf _ _ (Or.inl (by omega)) (Or.inl (by omega))]; exact mv.2.2.2.1 i hi) (fun i hi => by rw [hf _ _ (Or.inl (by omega)) (Or.inl (by omega)), hf _ _ (Or.inl (by omega)) (Or.inl (by omega))]; exact mv.2.2.2.2 i hi) rfl rfl
  · unfold gx_A at A ⊢
    simp only [gm_kd_sf, gm_ln_sf, gm_sf_1, hf x 4 (Or.inr (by decide)) (Or.inl (by omega)), hf x 5 (Or.inr (by decide)) (Or.inl (by omega)), hf x 8 (Or.inr (by decide)) (Or.inl (by omega)), hf x 10 (Or.inr (by decide)) (Or.inl (by omega)), hf (x + 4) 0 (Or.inl (by omega)) (Or.inr (by decide)), hf (x + 4) 1 (Or.inl (by omega)) (Or.inr (by decide))]
    exact A
  · unfold gx_B at B ⊢
    simp only [hf x 0 (Or.inr (by decide)) (Or.inl (by omega)), hf x 1 (Or.inr (by decide)) (Or.inl (by omega)), hf x 2 (Or.inr (by decide)) (Or.inl (by omega)), hf x 3 (Or.inr (by decide)) (Or.inl (by omega)), hf x 6 (Or.inr (by decide)) (Or.inl (by omega)), hf (x + 2) _ (Or.inl (by omega)) (Or.inl (by omega))]
    exact B
  · rw [gm_fv_sfa (by omega), gm_fv_sfa (by omega), gm_fv_sfj (by decide), gm_fv_sf (by omega)]
  · rw [gm_fv_sfa (by omega), gm_fv_sfa (by omega), gm_fv_sf (by simp only [gm_ln_sf]; omega)]
  · rw [gm_fv_sfj (by decide), gm_fv_sf (by simp only [gm_ln_sf]; omega)]
  · rw [gm_fv_sf (by simp only [gm_ln_sf]; omega)]
  · rw [hf _ _ (Or.inr (by decide)) (Or.inl (by omega))]; exact f12
theorem gx_R.last {v : Int32} (R : gx_R E h x ca K F s) : gx_R E (gm_sf h x 11 (.int v)) x ca K F s := by
  have e : ∀ i, 0 < i → x + i ≠ x := fun i hi => by omega
  refine R.fld (Or.inr (Or.inl rfl)) ?_ rfl rfl
  obtain ⟨z1, z2, z3, z4, z5, z6, z7, z8, z9⟩ := R.2.2.2.1
  refine ⟨?_, z2, ?_, z4, ?_, ?_, z7, z8, ?_⟩
  · rw [gm_fv_sfj (by decide)]; exact z1
  · rw [gm_fv_sfj (by decide)]; exact z3
  · rw [gm_fv_sfa (e 4 (by decide))]; exact z5
  · rw [gm_fv_sfa (e 4 (by decide))]; exact z6
  · rw [gm_fv_sfj (by decide)]; exact z9
theorem x_read (hK : gs_kok K) (hd : 143 ≤ d) (X : gx_X E h x ca K s lf) : gm_Ca E d 57 [.ref x] h (fun r h' => r = .inl (some (.int (gs_read K s lf).1)) ∧ gx_X E h' x ca K (gs_read K s lf).2.1 (gs_read K s lf).2.2 ∧ h'.1 ≤ h.1 + 710 ∧ h'.2.1 ≤ h.2.1 + 5700) := by
  obtain ⟨R, f11⟩ := X
  obtain ⟨A0, -, -, -, A10, -, -, -, -, -, -, A4, -⟩ := R.1
  obtain ⟨z1, z2, z3, z4, z5, z6, z7, z8, z9⟩ := R.2.2.2.1
  have hn7 := R.2.1.2.2.2.2.2.1
  show gm_W E d 57 0 [.ref x, gm_u, gm_u, gm_u, gm_u, gm_u] [] h _
  unfold gs_read
  by_cases h0 : lf = 0
  · subst h0
    rw [if_neg (fun z => z rfl)]
    simp only [r57_0, r57_0n, r57_1, r57_4, r57_7, r57_7n, r57_8, r57_11, r57_12, r57_12n, r57_13, r57_16, r57_17, r57_17n, r57_18, r57_21, r57_22, r57_22n, r57_23, r57_26, r57_29, r57_30, r57_30n, r57_31, r57_34, r57_37, r57_39, r57_39n, r57_43, r57_44, r57_44n, r57_46, r57_46n, r57_47, r57_48, r57_51, r57_51n, r57_52, r57_53, r57_56, r57_56n, r57_57, r57_60, r57_61, r57_66, r57_66n, r57_67, r57_70, r57_72, r57_75, r57_75n, r57_76, r57_76n, r57_77, r57_80, r57_83, r57_83n, r57_84, r57_87, i32_10, reduceIte, gm_cmp1, gm_cmp3, gm_cmp4, gm_kd_sf, gm_ln_sf, gm_sf_1, gm_sf_2, gm_nw_1, gm_nw_2, gm_k_int, gm_k_ref, gm_k_null, gm_k_u, gm_k_long, and_true, true_and, true_or, or_true, or_false, false_or, and_self, or_self, if_true, if_false, List.map_nil, List.map_cons, List.sum_nil, List.sum_cons, Nat.zero_le, Option.toList_some, Option.toList_none, List.cons_append, List.nil_append, ne_eq, not_false_eq_true, not_true_eq_false, nI_1, nI_add, Value.category, Nat.reduceAdd, Nat.reduceMod, Nat.reduceLeDiff, Nat.reduceLT, Nat.reduceEqDiff, Nat.reducePow, Nat.le_refl, Nat.add_left_cancel_iff, Nat.add_eq_left, Nat.left_eq_add, Nat.add_zero, A0, f11, z1, z3, A10, A4, z5, z6]
    refine c57_40 (by simp) A0 (by omega) (x_readOutermost (G := fun _ => False) hK (by omega) R (fun _ z => z.elim)) (fun v h1 q => ?_) (fun a h1 q => ?_)
    · obtain ⟨v, s1, e1, rfl, R1, mv1, le1, co1⟩ := q
      rw [e1]
      simp only [r57_0, r57_0n, r57_1, r57_4, r57_7, r57_7n, r57_8, r57_11, r57_12, r57_12n, r57_13, r57_16, r57_17, r57_17n, r57_18, r57_21, r57_22, r57_22n, r57_23, r57_26, r57_29, r57_30, r57_30n, r57_31, r57_34, r57_37, r57_39, r57_39n, r57_43, r57_44, r57_44n, r57_46, r57_46n, r57_47, r57_48, r57_51, r57_51n, r57_52, r57_53, r57_56, r57_56n, r57_57, r57_60, r57_61, r57_66, r57_66n, r57_67, r57_70, r57_72, r57_75, r57_75n, r57_76, r57_76n, r57_77, r57_80, r57_83, r57_83n, r57_84, r57_87, i32_10, reduceIte, gm_cmp1, gm_cmp3, gm_cmp4, gm_kd_sf, gm_ln_sf, gm_sf_1, gm_sf_2, gm_nw_1, gm_nw_2, gm_k_int, gm_k_ref, gm_k_null, gm_k_u, gm_k_long, and_true, true_and, true_or, or_true, or_false, false_or, and_self, or_self, if_true, if_false, List.map_nil, List.map_cons, List.sum_nil, List.sum_cons, Nat.zero_le, Option.toList_some, Option.toList_none, List.cons_append, List.nil_append, ne_eq, not_false_eq_true, not_true_eq_false, nI_1, nI_add, Value.category, Nat.reduceAdd, Nat.reduceMod, Nat.reduceLeDiff, Nat.reduceLT, Nat.reduceEqDiff, Nat.reducePow, Nat.le_refl, Nat.add_left_cancel_iff, Nat.add_eq_left, Nat.left_eq_add, Nat.add_zero]
      have z12 := R1.2.2.2.1.2.1
      refine ⟨⟨R1, mv1.2.2.1.trans f11⟩, ?_⟩
      obtain ⟨a1, b1⟩ := co1
      omega
    · obtain ⟨f, e1, E1, mv1, cx1⟩ := q
      rw [e1]
      obtain ⟨cx1, cx2⟩ := cx1
      have RB := R.back E1 mv1
      obtain ⟨A, B, f12⟩ := E1
      have k0 := A.1
      have k4 := A.2.2.2.2.2.2.2.2.2.2.2.1
      have f10 := A.2.2.2.2.1
      have l0 : gm_ln h1 x = 13 := gm_kd_ln A.1 (by decide)
      have n10 : (10 : Nat) ≠ 7 := by decide
      have n109 : (10 : Nat) ≠ 9 := by decide
      simp only [r57_0, r57_0n, r57_1, r57_4, r57_7, r57_7n, r57_8, r57_11, r57_12, r57_12n, r57_13, r57_16, r57_17, r57_17n, r57_18, r57_21, r57_22, r57_22n, r57_23, r57_26, r57_29, r57_30, r57_30n, r57_31, r57_34, r57_37, r57_39, r57_39n, r57_43, r57_44, r57_44n, r57_46, r57_46n, r57_47, r57_48, r57_51, r57_51n, r57_52, r57_53, r57_56, r57_56n, r57_57, r57_60, r57_61, r57_66, r57_66n, r57_67, r57_70, r57_72, r57_75, r57_75n, r57_76, r57_76n, r57_77, r57_80, r57_83, r57_83n, r57_84, r57_87, i32_10, reduceIte, gm_cmp1, gm_cmp3, gm_cmp4, gm_kd_sf, gm_ln_sf, gm_sf_1, gm_sf_2, gm_nw_1, gm_nw_2, gm_k_int, gm_k_ref, gm_k_null, gm_k_u, gm_k_long, and_true, true_and, true_or, or_true, or_false, false_or, and_self, or_self, if_true, if_false, List.map_nil, List.map_cons, List.sum_nil, List.sum_cons, Nat.zero_le, Option.toList_some, Option.toList_none, List.cons_append, List.nil_append, ne_eq, not_false_eq_true, not_true_eq_false, nI_1, nI_add, Value.category, Nat.reduceAdd, Nat.reduceMod, Nat.reduceLeDiff, Nat.reduceLT, Nat.reduceEqDiff, Nat.reducePow, Nat.le_refl, Nat.add_left_cancel_iff, Nat.add_eq_left, Nat.left_eq_add, Nat.add_zero, k0, gm_fv_sfj n10, gm_fv_sfj n109, f10]
      refine c57_63 (by simp) (by simp only [gm_kd_sf]; exact k4) (by omega) (x_rewind (x := x + 4) (f := 0) (m := 0) (hk := by simp only [gm_kd_sf]; exact k4) _ _) (gx_kn ?_) gx_kx
      obtain ⟨hB, hBe⟩ : ∃ hB, hB = gm_sf (gm_sf (gm_sf (gm_sf h1 x 7 (.int (nI (gs_pl s)))) x 9 (.int (nI (gs_hp s).length))) (x + 4) 2 (.int (nI (gs_f1 s)))) (x + 4) 3 (.int (nI (gs_hs s).length)) := ⟨_, rfl⟩
      rw [← hBe]
      rw [← hBe] at RB
      have kB := RB.1.1
      have fB12 : gm_fv hB x 12 = .int f := by
        rw [hBe, gm_fv_sfa (by omega), gm_fv_sfa (by omega), gm_fv_sfj (by decide), gm_fv_sfj (by decide)]
        exact f12
      have fB11 : gm_fv hB x 11 = .int 0 := by
        rw [hBe, gm_fv_sfa (by omega), gm_fv_sfa (by omega), gm_fv_sfj (by decide), gm_fv_sfj (by decide), mv1.2.2.1]
        exact f11
      have cB : hB.1 = h1.1 ∧ hB.2.1 = h1.2.1 := by rw [hBe]; simp only [gm_sf_1, gm_sf_2, and_self]
      have lB : gm_ln hB x = 13 := RB.len.1
      by_cases hf : f = -7
      · simp only [r57_0, r57_0n, r57_1, r57_4, r57_7, r57_7n, r57_8, r57_11, r57_12, r57_12n, r57_13, r57_16, r57_17, r57_17n, r57_18, r57_21, r57_22, r57_22n, r57_23, r57_26, r57_29, r57_30, r57_30n, r57_31, r57_34, r57_37, r57_39, r57_39n, r57_43, r57_44, r57_44n, r57_46, r57_46n, r57_47, r57_48, r57_51, r57_51n, r57_52, r57_53, r57_56, r57_56n, r57_57, r57_60, r57_61, r57_66, r57_66n, r57_67, r57_70, r57_72, r57_75, r57_75n, r57_76, r57_76n, r57_77, r57_80, r57_83, r57_83n, r57_84, r57_87, i32_10, reduceIte, gm_cmp1, gm_cmp3, gm_cmp4, gm_kd_sf, gm_ln_sf, gm_sf_1, gm_sf_2, gm_nw_1, gm_nw_2, gm_k_int, gm_k_ref, gm_k_null, gm_k_u, gm_k_long, and_true, true_and, true_or, or_true, or_false, false_or, and_self, or_self, if_true, if_false, List.map_nil, List.map_cons, List.sum_nil, List.sum_cons, Nat.zero_le, Option.toList_some, Option.toList_none, List.cons_append, List.nil_append, ne_eq, not_false_eq_true, not_true_eq_false, nI_1, nI_add, Value.category, Nat.reduceAdd, Nat.reduceMod, Nat.reduceLeDiff, Nat.reduceLT, Nat.reduceEqDiff, Nat.reducePow, Nat.le_refl, Nat.add_left_cancel_iff, Nat.add_eq_left, Nat.left_eq_add, Nat.add_zero, kB, fB12, hf]
        refine ⟨⟨RB, fB11⟩, ?_⟩
        omega
      · have n12 : (12 : Nat) ≠ 11 := by decide
        simp only [r57_0, r57_0n, r57_1, r57_4, r57_7, r57_7n, r57_8, r57_11, r57_12, r57_12n, r57_13, r57_16, r57_17, r57_17n, r57_18, r57_21, r57_22, r57_22n, r57_23, r57_26, r57_29, r57_30, r57_30n, r57_31, r57_34, r57_37, r57_39, r57_39n, r57_43, r57_44, r57_44n, r57_46, r57_46n, r57_47, r57_48, r57_51, r57_51n, r57_52, r57_53, r57_56, r57_56n, r57_57, r57_60, r57_61, r57_66, r57_66n, r57_67, r57_70, r57_72, r57_75, r57_75n, r57_76, r57_76n, r57_77, r57_80, r57_83, r57_83n, r57_84, r57_87, i32_10, reduceIte, gm_cmp1, gm_cmp3, gm_cmp4, gm_kd_sf, gm_ln_sf, gm_sf_1, gm_sf_2, gm_nw_1, gm_nw_2, gm_k_int, gm_k_ref, gm_k_null, gm_k_u, gm_k_long, and_true, true_and, true_or, or_true, or_false, false_or, and_self, or_self, if_true, if_false, List.map_nil, List.map_cons, List.sum_nil, List.sum_cons, Nat.zero_le, Option.toList_some, Option.toList_none, List.cons_append, List.nil_append, ne_eq, not_false_eq_true, not_true_eq_false, nI_1, nI_add, Value.category, Nat.reduceAdd, Nat.reduceMod, Nat.reduceLeDiff, Nat.reduceLT, Nat.reduceEqDiff, Nat.reducePow, Nat.le_refl, Nat.add_left_cancel_iff, Nat.add_eq_left, Nat.left_eq_add, Nat.add_zero, kB, fB12, hf, gm_fv_sfj n12]
        refine ⟨⟨RB.last, gm_fv_sf (by omega)⟩, ?_⟩
        omega
  · rw [if_pos h0]
    simp only [r57_0, r57_0n, r57_1, r57_4, r57_7, r57_7n, r57_8, r57_11, r57_12, r57_12n, r57_13, r57_16, r57_17, r57_17n, r57_18, r57_21, r57_22, r57_22n, r57_23, r57_26, r57_29, r57_30, r57_30n, r57_31, r57_34, r57_37, r57_39, r57_39n, r57_43, r57_44, r57_44n, r57_46, r57_46n, r57_47, r57_48, r57_51, r57_51n, r57_52, r57_53, r57_56, r57_56n, r57_57, r57_60, r57_61, r57_66, r57_66n, r57_67, r57_70, r57_72, r57_75, r57_75n, r57_76, r57_76n, r57_77, r57_80, r57_83, r57_83n, r57_84, r57_87, i32_10, reduceIte, gm_cmp1, gm_cmp3, gm_cmp4, gm_kd_sf, gm_ln_sf, gm_sf_1, gm_sf_2, gm_nw_1, gm_nw_2, gm_k_int, gm_k_ref, gm_k_null, gm_k_u, gm_k_long, and_true, true_and, true_or, or_true, or_false, false_or, and_self, or_self, if_true, if_false, List.map_nil, List.map_cons, List.sum_nil, List.sum_cons, Nat.zero_le, Option.toList_some, Option.toList_none, List.cons_append, List.nil_append, ne_eq, not_false_eq_true, not_true_eq_false, nI_1, nI_add, Value.category, Nat.reduceAdd, Nat.reduceMod, Nat.reduceLeDiff, Nat.reduceLT, Nat.reduceEqDiff, Nat.reducePow, Nat.le_refl, Nat.add_left_cancel_iff, Nat.add_eq_left, Nat.left_eq_add, Nat.add_zero, A0, f11, h0]
    refine ⟨⟨R, f11⟩, ?_⟩
    omega
end Z3
