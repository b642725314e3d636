/-! THE CLASS, 22: what changes classes and bytes. -/
section Z5
variable {E : Nat → Value} {d x b : Nat} {h h' : gm_H} {ca ca' : Nat → Nat} {K K' : gs_K} {F G : Nat → Prop} {s : gs_S} {lf : Int32}
theorem gx_ow_eq {o : Option Nat} (hc : ∀ c, o = some c → ca' c = ca c) : gx_ow ca' o = gx_ow ca o := by
  cases o with
  | none => rfl
  | some c => show Value.ref (ca' c) = .ref (ca c); rw [hc c rfl]
theorem gx_ds.kk (hn : gs_n K ≤ gs_n K') (hc : ∀ c, (gs_cls K c).isSome = true → (gs_cls K' c).isSome = true ∧ ca' c = ca c) (hnew : ∀ c, (gs_cls K' c).isSome = true → ((gs_cls K c).isSome = true ∧ ca' c = ca c) ∨ h.1 ≤ ca' c) : ∀ {L : List gs_L} {v : Value}, gx_ds h x ca K F L v → gx_ds h x ca' K' F L v
  | [], _, q => q
  | l :: L, v, q => by
    obtain ⟨a, u, w, rfl, o1, o2, o3, q1, q2, q3, q4, q5, q6, q7, q8, q9, q10, q11, q12, q13, q14, q15, q16, q17, q18, q19⟩ := q
    refine ⟨a, u, w, rfl, o1, o2, o3, q1, q2, q3, q4, q5, q6, q7, q8, q9, ?_, q11, q12, q13, q14, ⟨q15.1, fun c z => ?_⟩, Nat.le_trans q16 hn, fun c z => ⟨(q17 c z).1, (hc c (q17 c z).2).1⟩, q18, gx_ds.kk hn hc hnew q19⟩
    · rw [q10, gx_ow_eq (fun c z => (hc c (q17 c z).2).2)]
    · rcases hnew c z with ⟨z1, z2⟩ | z1
      · rw [z2]; exact q15.2 c z1
      · have := o2.2.1
        have := o3.2.1
        omega
theorem gx_th.kk {o : gs_O} {t : Nat} (q : gx_th h ca o t) (hc : ∀ c, o.2.1 = some c → ca' c = ca c) : gx_th h ca' o t := by
  obtain ⟨q1, q2, q3, q4⟩ := q
  exact ⟨q1, q2, by rw [q3, gx_ow_eq hc], q4⟩
/-- other classes, more bytes: cells of the region as before -/
theorem gx_R.chg (R : gx_R E h x ca K F s) (g : gx_ag h h' x F) (hA : gx_A h' x) (hB : gx_B h' x K') (hC : gx_C E h' x ca' K' F) (hM : gx_M h' x K' s) (h3 : ∀ i, i < (gs_hp s).length → gm_fv h' (x + 3) i = gm_fv h (x + 3) i) (h5 : ∀ i, i < (gs_hs s).length → gm_fv h' (x + 5) i = gm_fv h (x + 5) i ∧ gm_fv h' (x + 6) i = gm_fv h (x + 6) i)
    (hn : gs_n K ≤ gs_n K') (hc : ∀ c, (gs_cls K c).isSome = true → (gs_cls K' c).isSome = true ∧ ca' c = ca c) (hnew : ∀ c, (gs_cls K' c).isSome = true → ((gs_cls K c).isSome = true ∧ ca' c = ca c) ∨ h.1 ≤ ca' c) : gx_R E h' x ca' K' F s := by
  obtain ⟨q1, q2, q3, q4, ⟨ta, q5⟩, q6, q7⟩ := R
  refine ⟨hA, hB, hC, hM, ⟨ta, q5.1, fun i o z => ?_⟩, fun i e z => ?_, fun i o c z z2 => (hc c (q7.1 i o c z z2)).1, q7.2⟩
  · obtain ⟨b1, b2, b3⟩ := q5.2 i o z
    exact ⟨by rw [h3 i (List.getElem?_eq_some_iff.mp z).1]; exact b1, ⟨b2.1.tr g.1, b2.2.tr g.1⟩, (b3.tr (g.2 _ b2.1) (g.2 _ b2.2)).kk (fun c z2 => (hc c (q7.1 i o c z z2)).2)⟩
  · have := h5 i (List.getElem?_eq_some_iff.mp z).1
    rw [this.1, this.2]
    exact ⟨(q6 i e z).1, (gx_ds.kk hn hc hnew (q6 i e z).2).tr g⟩
/-- a byte more -/
def gs_put1 (K : gs_K) (u : UInt8) : gs_K := (K.1, gs_cls K, (fun i => if i = gs_n K then u else gs_by K i), gs_n K + 1, K.2.2.2.2)
theorem gx_R.put1 {u : UInt8} (R : gx_R E h x ca K F s) (hn : gs_n K < 700) : gx_R E (gm_sf (gm_sf h (x + 2) (gs_n K) (.int u.toInt8.toInt32)) x 6 (.int (nI (gs_n K + 1)))) x ca (gs_put1 K u) F s := by
  have l0 : gm_ln h x = 13 := R.len.1
  obtain ⟨z1, z2, z3, z4, z5, z6, z7, z8, z9⟩ := R.2.2.2.1
  have A := R.1
  have A2l := A.2.2.2.2.2.2.2.2.1
  have hf : ∀ b j, b ≠ x + 2 → (b ≠ x ∨ j ≠ 6) → gm_fv (gm_sf (gm_sf h (x + 2) (gs_n K) (.int u.toInt8.toInt32)) x 6 (.int (nI (gs_n K + 1)))) b j = gm_fv h b j := fun b j h2 h0 => by
    rcases h0 with z | z
    · rw [gm_fv_sfa z, gm_fv_sfa h2]
    · rw [gm_fv_sfj z, gm_fv_sfa h2]
  have g : gx_ag h (gm_sf (gm_sf h (x + 2) (gs_n K) (.int u.toInt8.toInt32)) x 6 (.int (nI (gs_n K + 1)))) x F := (gx_ag.sf (gx_ok.no (by omega))).trans (gx_ag.sf (gx_ok.no (by omega)))
  refine R.chg (ca' := ca) (K' := gs_put1 K u) g ?_ ?_ (show gx_C E _ x ca K F from R.2.2.1.tr g (fun c _ => hf _ _ (by omega) (Or.inl (by omega)))) ⟨?_, Nat.le_succ_of_le z2, ?_, z4, ?_, ?_, z7, z8, ?_⟩ (fun i _ => hf _ _ (by omega) (Or.inl (by omega))) (fun i _ => ⟨hf _ _ (by omega) (Or.inl (by omega)), hf _ _ (by omega) (Or.inl (by omega))⟩) (Nat.le_succ _) (fun c z => ⟨z, rfl⟩) (fun c z => Or.inl ⟨z, rfl⟩)
  · unfold gx_A at A ⊢
    simp only [gm_kd_sf, gm_ln_sf, gm_sf_1, hf x 4 (by omega) (Or.inr (by decide)), hf x 5 (by omega) (Or.inr (by decide)), hf x 8 (by omega) (Or.inr (by decide)), hf x 10 (by omega) (Or.inr (by decide)), hf (x + 4) _ (by omega) (Or.inl (by omega))]
    exact A
  · obtain ⟨B0, B1, B2, B3, B6, B7, B8⟩ := R.2.1
    refine ⟨?_, ?_, ?_, ?_, ?_, hn, fun i hi => ?_⟩
    · rw [hf _ _ (by omega) (Or.inr (by decide))]; exact B0
    · rw [hf _ _ (by omega) (Or.inr (by decide))]; exact B1
    · rw [hf _ _ (by omega) (Or.inr (by decide))]; exact B2
    · rw [hf _ _ (by omega) (Or.inr (by decide))]; exact B3
    · rw [gm_fv_sf (by rw [gm_ln_sf]; omega)]; rfl
    · have hi : i < gs_n K + 1 := hi
      rw [gm_fv_sfa (by omega)]
      by_cases e : i = gs_n K
      · subst e
        rw [gm_fv_sf (by omega)]
        show Value.int u.toInt8.toInt32 = .int ((if gs_n K = gs_n K then u else gs_by K (gs_n K)).toInt8.toInt32)
        rw [if_pos rfl]
      · rw [gm_fv_sfj e, B8 i (by omega)]
        show Value.int ((gs_by K i).toInt8.toInt32) = .int ((if i = gs_n K then u else gs_by K i).toInt8.toInt32)
        rw [if_neg e]
  · rw [hf _ _ (by omega) (Or.inr (by decide))]; exact z1
  · rw [hf _ _ (by omega) (Or.inr (by decide))]; exact z3
  · rw [hf _ _ (by omega) (Or.inl (by omega))]; exact z5
  · rw [hf _ _ (by omega) (Or.inl (by omega))]; exact z6
  · rw [hf _ _ (by omega) (Or.inr (by decide))]; exact z9
/-- the byte of a number that stands so many bytes from its end -/
def gs_pb (v : Int64) (k : Nat) : UInt8 := ((v.toUInt64 >>> (((8 : Int32) * nI k).toInt64.toUInt64 &&& Int64.toUInt64 63)).toInt64.toInt32.toInt8).toUInt8
def gs_puts (K : gs_K) (v : Int64) : Nat → gs_K
  | 0 => K
  | k + 1 => gs_puts (gs_put1 K (gs_pb v k)) v k
theorem gs_puts_n {v : Int64} : ∀ (k : Nat) (K : gs_K), gs_n (gs_puts K v k) = gs_n K + k
  | 0, _ => rfl
  | k + 1, K => by
    show gs_n (gs_puts (gs_put1 K (gs_pb v k)) v k) = _
    rw [gs_puts_n k]
    show gs_n K + 1 + k = _
    omega
def gs_putr (K : gs_K) (v : Int64) (c : Int32) : Int32 × gs_K := if c < 1 ∨ 8 < c ∨ 700 < gs_n K + c.toNatClampNeg then (-1, K) else (nI (gs_n K + c.toNatClampNeg), gs_puts K v c.toNatClampNeg)
theorem x_put {v : Int64} {c : Int32} (X : gx_X E h x ca K s lf) : gm_Ca E d 55 [.ref x, .long v, .int c] h (fun r h' => r = .inl (some (.int (gs_putr K v c).1)) ∧ gx_X E h' x ca (gs_putr K v c).2 s lf ∧ h'.1 = h.1 ∧ h'.2.1 = h.2.1) := by
  obtain ⟨R, f11⟩ := X
  have A0 := R.1.1
  have hn7 := R.2.1.2.2.2.2.2.1
  have B6 := R.2.1.2.2.2.2.1
  have loop : ∀ (m : Nat) (K : gs_K) (h : gm_H), m ≤ 8 → gs_n K + m ≤ 700 → gx_X E h x ca K s lf → gm_W E d 55 30 [.ref x, .long v, gm_u, .int c, .int (nI m - 1)] [] h (fun r h' => r = .inl (some (.int (nI (gs_n K + m)))) ∧ gx_X E h' x ca (gs_puts K v m) s lf ∧ h'.1 = h.1 ∧ h'.2.1 = h.2.1) := by
    intro m
    induction m with
    | zero =>
      intro K h hm8 hm X
      have m1 : nI 0 - 1 < 0 := by decide
      have B6 := X.1.2.1.2.2.2.2.1
      simp only [r55_0, r55_1, r55_2, r55_5, r55_6, r55_8, r55_11, r55_11n, r55_12, r55_15, r55_16, r55_17, r55_20, r55_23, r55_24, r55_25, r55_26, r55_27, r55_28, r55_30, r55_32, r55_35, r55_35n, r55_36, r55_39, r55_39n, r55_40, r55_43, r55_44, r55_46, r55_48, r55_49, r55_50, r55_51, r55_52, r55_52z, r55_53, r55_53n, r55_54, r55_54i, r55_55, r55_58, r55_59, r55_60, r55_63, r55_66, r55_69, r55_69n, r55_70, r55_73, i32_10, reduceIte, gm_cmp1, gm_cmp3, gm_cmp4, gm_kd_sf, gm_ln_sf, gm_sf_1, gm_sf_2, gm_nw_1, gm_nw_2, gm_k_int, gm_k_ref, gm_k_null, gm_k_u, gm_k_long, and_true, true_and, true_or, or_true, or_false, false_or, and_self, or_self, if_true, if_false, List.map_nil, List.map_cons, List.sum_nil, List.sum_cons, Nat.zero_le, Option.toList_some, Option.toList_none, List.cons_append, List.nil_append, ne_eq, not_false_eq_true, not_true_eq_false, nI_1, nI_add, Value.category, Nat.reduceAdd, Nat.reduceMod, Nat.reduceLeDiff, Nat.reduceLT, Nat.reduceEqDiff, Nat.reducePow, Nat.le_refl, Nat.add_left_cancel_iff, Nat.add_eq_left, Nat.left_eq_add, Nat.add_zero, m1, X.1.1.1, B6]
      exact X
    | succ m ih =>
      intro K h hm8 hm X
      obtain ⟨R, f11⟩ := X
      have em : nI (m + 1) - 1 = nI m := nI_sub (b := 1) (by omega)
      obtain ⟨A0, -, A5, -, -, -, -, A2, A2l, -⟩ := R.1
      have B6 := R.2.1.2.2.2.2.1
      have hn : gs_n K < 700 := by omega
      have n0 : x ≠ x + 2 := by omega
      rw [r55_30]
      simp only [r55_0, r55_1, r55_2, r55_5, r55_6, r55_8, r55_11, r55_11n, r55_12, r55_15, r55_16, r55_17, r55_20, r55_23, r55_24, r55_25, r55_26, r55_27, r55_28, r55_32, r55_35, r55_35n, r55_36, r55_39, r55_39n, r55_40, r55_43, r55_44, r55_46, r55_48, r55_49, r55_50, r55_51, r55_52, r55_52z, r55_53, r55_53n, r55_54, r55_54i, r55_55, r55_58, r55_59, r55_60, r55_63, r55_66, r55_69, r55_69n, r55_70, r55_73, i32_10, reduceIte, gm_cmp1, gm_cmp3, gm_cmp4, gm_kd_sf, gm_ln_sf, gm_sf_1, gm_sf_2, gm_nw_1, gm_nw_2, gm_k_int, gm_k_ref, gm_k_null, gm_k_u, gm_k_long, and_true, true_and, true_or, or_true, or_false, false_or, and_self, or_self, if_true, if_false, List.map_nil, List.map_cons, List.sum_nil, List.sum_cons, Nat.zero_le, Option.toList_some, Option.toList_none, List.cons_append, List.nil_append, ne_eq, not_false_eq_true, not_true_eq_false, nI_1, nI_add, Value.category, Nat.reduceAdd, Nat.reduceMod, Nat.reduceLeDiff, Nat.reduceLT, Nat.reduceEqDiff, Nat.reducePow, Nat.le_refl, Nat.add_left_cancel_iff, Nat.add_eq_left, Nat.left_eq_add, Nat.add_zero, em, nI_pos (show m < 2 ^ 31 by omega), A0, A5, B6, A2, A2l, hn, gm_fv_sfa n0]
      rw [← em, nI_dn]
      have eb : ((v.toUInt64 >>> (((8 : Int32) * nI m).toInt64.toUInt64 &&& Int64.toUInt64 63)).toInt64.toInt32.toInt8.toInt32) = (gs_pb v m).toInt8.toInt32 := by
        unfold gs_pb
        rfl
      rw [em, eb, Int8.toInt8_toInt32]
      have X1 : gx_X E (gm_sf (gm_sf h (x + 2) (gs_n K) (.int (gs_pb v m).toInt8.toInt32)) x 6 (.int (nI (gs_n K + 1)))) x ca (gs_put1 K (gs_pb v m)) s lf := ⟨R.put1 hn, by rw [gm_fv_sfj (by decide), gm_fv_sfa n0]; exact f11⟩
      have e1 : gs_n (gs_put1 K (gs_pb v m)) = gs_n K + 1 := rfl
      refine gm_W.mono (ih (gs_put1 K (gs_pb v m)) _ (by omega) (by rw [e1]; omega) X1) (fun r h' w => ?_)
      rw [e1, show gs_n K + 1 + m = gs_n K + (m + 1) by omega] at w
      simp only [gm_sf_1, gm_sf_2] at w
      exact w
  show gm_W E d 55 0 [.ref x, .long v, gm_u, .int c, gm_u] [] h _
  unfold gs_putr
  by_cases c1 : c < 1
  · simp only [r55_0, r55_1, r55_2, r55_5, r55_6, r55_8, r55_11, r55_11n, r55_12, r55_15, r55_16, r55_17, r55_20, r55_23, r55_24, r55_25, r55_26, r55_27, r55_28, r55_30, r55_32, r55_35, r55_35n, r55_36, r55_39, r55_39n, r55_40, r55_43, r55_44, r55_46, r55_48, r55_49, r55_50, r55_51, r55_52, r55_52z, r55_53, r55_53n, r55_54, r55_54i, r55_55, r55_58, r55_59, r55_60, r55_63, r55_66, r55_69, r55_69n, r55_70, r55_73, i32_10, reduceIte, gm_cmp1, gm_cmp3, gm_cmp4, gm_kd_sf, gm_ln_sf, gm_sf_1, gm_sf_2, gm_nw_1, gm_nw_2, gm_k_int, gm_k_ref, gm_k_null, gm_k_u, gm_k_long, and_true, true_and, true_or, or_true, or_false, false_or, and_self, or_self, if_true, if_false, List.map_nil, List.map_cons, List.sum_nil, List.sum_cons, Nat.zero_le, Option.toList_some, Option.toList_none, List.cons_append, List.nil_append, ne_eq, not_false_eq_true, not_true_eq_false, nI_1, nI_add, Value.category, Nat.reduceAdd, Nat.reduceMod, Nat.reduceLeDiff, Nat.reduceLT, Nat.reduceEqDiff, Nat.reducePow, Nat.le_refl, Nat.add_left_cancel_iff, Nat.add_eq_left, Nat.left_eq_add, Nat.add_zero, c1]
    exact ⟨R, f11⟩
  by_cases c8 : 8 < c
  · simp only [r55_0, r55_1, r55_2, r55_5, r55_6, r55_8, r55_11, r55_11n, r55_12, r55_15, r55_16, r55_17, r55_20, r55_23, r55_24, r55_25, r55_26, r55_27, r55_28, r55_30, r55_32, r55_35, r55_35n, r55_36, r55_39, r55_39n, r55_40, r55_43, r55_44, r55_46, r55_48, r55_49, r55_50, r55_51, r55_52, r55_52z, r55_53, r55_53n, r55_54, r55_54i, r55_55, r55_58, r55_59, r55_60, r55_63, r55_66, r55_69, r55_69n, r55_70, r55_73, i32_10, reduceIte, gm_cmp1, gm_cmp3, gm_cmp4, gm_kd_sf, gm_ln_sf, gm_sf_1, gm_sf_2, gm_nw_1, gm_nw_2, gm_k_int, gm_k_ref, gm_k_null, gm_k_u, gm_k_long, and_true, true_and, true_or, or_true, or_false, false_or, and_self, or_self, if_true, if_false, List.map_nil, List.map_cons, List.sum_nil, List.sum_cons, Nat.zero_le, Option.toList_some, Option.toList_none, List.cons_append, List.nil_append, ne_eq, not_false_eq_true, not_true_eq_false, nI_1, nI_add, Value.category, Nat.reduceAdd, Nat.reduceMod, Nat.reduceLeDiff, Nat.reduceLT, Nat.reduceEqDiff, Nat.reducePow, Nat.le_refl, Nat.add_left_cancel_iff, Nat.add_eq_left, Nat.left_eq_add, Nat.add_zero, c1, c8]
    exact ⟨R, f11⟩
  have c0 : ¬ c < 0 := fun z => c1 (Int32.lt_of_lt_of_le z (by decide))
  obtain ⟨m, hm, rfl⟩ := nI_of c0
  have hm8 : m ≤ 8 := Nat.le_of_not_lt (fun z => c8 ((nI_ltI (a := 8) (by decide) hm).mpr z))
  rw [nI_clamp hm]
  by_cases h7 : 700 < gs_n K + m
  · have e7 : ¬ nI (gs_n K + m) ≤ 700 := nI_ge (a := 700) h7 (by omega)
    simp only [r55_0, r55_1, r55_2, r55_5, r55_6, r55_8, r55_11, r55_11n, r55_12, r55_15, r55_16, r55_17, r55_20, r55_23, r55_24, r55_25, r55_26, r55_27, r55_28, r55_30, r55_32, r55_35, r55_35n, r55_36, r55_39, r55_39n, r55_40, r55_43, r55_44, r55_46, r55_48, r55_49, r55_50, r55_51, r55_52, r55_52z, r55_53, r55_53n, r55_54, r55_54i, r55_55, r55_58, r55_59, r55_60, r55_63, r55_66, r55_69, r55_69n, r55_70, r55_73, i32_10, reduceIte, gm_cmp1, gm_cmp3, gm_cmp4, gm_kd_sf, gm_ln_sf, gm_sf_1, gm_sf_2, gm_nw_1, gm_nw_2, gm_k_int, gm_k_ref, gm_k_null, gm_k_u, gm_k_long, and_true, true_and, true_or, or_true, or_false, false_or, and_self, or_self, if_true, if_false, List.map_nil, List.map_cons, List.sum_nil, List.sum_cons, Nat.zero_le, Option.toList_some, Option.toList_none, List.cons_append, List.nil_append, ne_eq, not_false_eq_true, not_true_eq_false, nI_1, nI_add, Value.category, Nat.reduceAdd, Nat.reduceMod, Nat.reduceLeDiff, Nat.reduceLT, Nat.reduceEqDiff, Nat.reducePow, Nat.le_refl, Nat.add_left_cancel_iff, Nat.add_eq_left, Nat.left_eq_add, Nat.add_zero, c1, c8, A0, B6, e7, h7]
    exact ⟨R, f11⟩
  · have e7 : nI (gs_n K + m) ≤ 700 := nI_le (b := 700) (by omega) (by decide)
    simp only [r55_0, r55_1, r55_2, r55_5, r55_6, r55_8, r55_11, r55_11n, r55_12, r55_15, r55_16, r55_17, r55_20, r55_23, r55_24, r55_25, r55_26, r55_27, r55_28, r55_32, r55_35, r55_35n, r55_36, r55_39, r55_39n, r55_40, r55_43, r55_44, r55_46, r55_48, r55_49, r55_50, r55_51, r55_52, r55_52z, r55_53, r55_53n, r55_54, r55_54i, r55_55, r55_58, r55_59, r55_60, r55_63, r55_66, r55_69, r55_69n, r55_70, r55_73, i32_10, reduceIte, gm_cmp1, gm_cmp3, gm_cmp4, gm_kd_sf, gm_ln_sf, gm_sf_1, gm_sf_2, gm_nw_1, gm_nw_2, gm_k_int, gm_k_ref, gm_k_null, gm_k_u, gm_k_long, and_true, true_and, true_or, or_true, or_false, false_or, and_self, or_self, if_true, if_false, List.map_nil, List.map_cons, List.sum_nil, List.sum_cons, Nat.zero_le, Option.toList_some, Option.toList_none, List.cons_append, List.nil_append, ne_eq, not_false_eq_true, not_true_eq_false, nI_1, nI_add, Value.category, Nat.reduceAdd, Nat.reduceMod, Nat.reduceLeDiff, Nat.reduceLT, Nat.reduceEqDiff, Nat.reducePow, Nat.le_refl, Nat.add_left_cancel_iff, Nat.add_eq_left, Nat.left_eq_add, Nat.add_zero, c1, c8, A0, B6, e7, h7]
    exact loop m K h hm8 (by omega) ⟨R, f11⟩
end Z5
