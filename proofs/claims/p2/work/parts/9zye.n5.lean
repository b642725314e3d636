/-! THE REFERENCE, 32: the rest. -/
section N5
variable {E : Nat → Value} {d m f n p dp c us nd : Nat} {h : gm_H} {t t' : gr_t} {K : gs_K} {s s' s'' : gs_S} {rc : gs_M Int32}
theorem m_rE (hd : 1 ≤ d) (hn : t.1 0 5 = nI n) (hp : t.1 0 6 = nI p) (hn7 : n ≤ 700) (hc : p < n) (hb : t.1 1 p = 120) : gm_Ca E d 44 [.ref m, .int (nI f)] (gr_H h m t) (gx_v none (gr_H h m (gr_give (gr_ui t 0 6 (nI (p + 1))) 0))) := by
  obtain ⟨Q, hQ⟩ : ∃ Q, Q = gx_v none (gr_H h m (gr_give (gr_ui t 0 6 (nI (p + 1))) 0)) := ⟨_, rfl⟩
  rw [← hQ]
  have c1 : ¬ nI n ≤ nI p := by rw [Int32.not_le]; exact nI_lt hc (by omega)
  have b7 : p < 720 := by omega
  show gm_W E d 44 0 [.ref m, .int (nI f), gm_u, gm_u] [] (gr_H h m t) Q
  simp only [r44_0, r44_0n, r44_1, r44_4, r44_4n, r44_5, r44_8, r44_11, r44_11n, r44_12, r44_15, r44_15n, r44_16, r44_19, r44_20, r44_23, r44_24, r44_25, r44_26, r44_28, r44_31, r44_31n, r44_32, r44_32i, r44_33, r44_36, r44_37, r44_38, r44_41, r44_41n, r44_42, r44_46, r44_49, r44_50, r44_52, r44_55, r44_56, r44_58, r44_61, r44_61n, r44_65, r44_66, r44_69, r44_69n, r44_70, r44_71, r44_71n, r44_72, r44_75, r44_76, r44_77, r44_78, r44_79, r44_80, r44_84, i32_10, reduceIte, gm_cmp1, gm_cmp3, gm_cmp4, gm_kd_sf, gm_ln_sf, gm_sf_1, gm_sf_2, gm_nw_1, gm_nw_2, gm_k_int, gm_k_ref, gm_k_null, gm_k_u, gm_k_long, and_true, true_and, true_or, or_true, or_false, false_or, and_self, or_self, if_true, if_false, List.map_nil, List.map_cons, List.sum_nil, List.sum_cons, Nat.zero_le, Option.toList_some, Option.toList_none, List.cons_append, List.nil_append, ne_eq, not_false_eq_true, not_true_eq_false, nI_1, nI_add, Value.category, Nat.reduceAdd, Nat.reduceMod, Nat.reduceLeDiff, Nat.reduceLT, Nat.reduceEqDiff, Nat.reducePow, Nat.le_refl, Nat.add_left_cancel_iff, Nat.add_eq_left, Nat.left_eq_add, Nat.add_zero, g_k0, g_k1, g_l1, g_p4, g_a1, g_w1, g_k2, g_l2, g_p10, g_a2, g_w2, g_k3, g_l3, g_p11, g_a3, g_w3, g_k4, g_l4, g_p12, g_a4, g_w4, g_k5, g_l5, g_p13, g_a5, g_w5, g_k6, g_l6, g_p14, g_a6, g_w6, g_k7, g_l7, g_p15, g_a7, g_w7, g_k8, g_l8, g_p16, g_a8, g_w8, g_k9, g_l9, g_p17, g_a9, g_w9, g_k10, g_l10, g_p18, g_a10, g_w10, g_k11, g_l11, g_p19, g_a11, g_w11, g_k12, g_l12, g_p20, g_a12, g_w12, g_k13, g_l13, g_p21, g_a13, g_w13, g_k14, g_l14, g_p22, g_a14, g_w14, g_k15, g_l15, g_p24, g_a15, g_w15, g_k16, g_l16, g_p26, g_a16, g_w16, g_k17, g_l17, g_p27, g_a17, g_w17, g_k18, g_l18, g_p29, g_a18, g_w18, g_k19, g_l19, g_p30, g_a19, g_w19, g_k20, g_l20, g_p31, g_a20, g_w20, g_k21, g_l21, g_p32, g_a21, g_w21, g_k22, g_l22, g_p33, g_a22, g_w22, g_k23, g_l23, g_p34, g_a23, g_w23, g_k24, g_l24, g_p35, g_a24, g_w24, g_k25, g_l25, g_p36, g_a25, g_w25, g_k26, g_l26, g_p37, g_a26, g_w26, g_k27, g_l27, g_p38, g_a27, g_w27, g_k28, g_l28, g_p40, g_a28, g_w28, g_k29, g_l29, g_p41, g_a29, g_w29, g_k30, g_l30, g_p42, g_a30, g_w30, g_k31, g_l31, g_p43, g_a31, g_w31, g_k32, g_l32, g_p44, g_a32, g_w32, g_k33, g_l33, g_p45, g_a33, g_w33, g_k34, g_l34, g_p46, g_a34, g_w34, g_f0, g_s0, g_f1, g_s1, g_f2, g_s2, g_f3, g_s3, g_f5, g_s5, g_f6, g_s6, g_f7, g_s7, g_f8, g_s8, g_f9, g_s9, g_f23, g_s23, g_f25, g_s25, g_f28, g_s28, g_f39, g_s39, g_f47, g_s47, gr_ui_eq, gr_ui_2, gr_ul_eq, gr_ul_1, gr_ui_no, gr_ui_ni, gr_ul_no, gr_ul_ni, hn, hp, c1, b7, hb, eq_self]
  refine c44_43 (by simp) g_k0 (by omega) m_give (gx_kn ?_) gx_kx
  simp only [r44_0, r44_0n, r44_1, r44_4, r44_4n, r44_5, r44_8, r44_11, r44_11n, r44_12, r44_15, r44_15n, r44_16, r44_19, r44_20, r44_23, r44_24, r44_25, r44_26, r44_28, r44_31, r44_31n, r44_32, r44_32i, r44_33, r44_36, r44_37, r44_38, r44_41, r44_41n, r44_42, r44_46, r44_49, r44_50, r44_52, r44_55, r44_56, r44_58, r44_61, r44_61n, r44_65, r44_66, r44_69, r44_69n, r44_70, r44_71, r44_71n, r44_72, r44_75, r44_76, r44_77, r44_78, r44_79, r44_80, r44_84, i32_10, reduceIte, gm_cmp1, gm_cmp3, gm_cmp4, gm_kd_sf, gm_ln_sf, gm_sf_1, gm_sf_2, gm_nw_1, gm_nw_2, gm_k_int, gm_k_ref, gm_k_null, gm_k_u, gm_k_long, and_true, true_and, true_or, or_true, or_false, false_or, and_self, or_self, if_true, if_false, List.map_nil, List.map_cons, List.sum_nil, List.sum_cons, Nat.zero_le, Option.toList_some, Option.toList_none, List.cons_append, List.nil_append, ne_eq, not_false_eq_true, not_true_eq_false, nI_1, nI_add, Value.category, Nat.reduceAdd, Nat.reduceMod, Nat.reduceLeDiff, Nat.reduceLT, Nat.reduceEqDiff, Nat.reducePow, Nat.le_refl, Nat.add_left_cancel_iff, Nat.add_eq_left, Nat.left_eq_add, Nat.add_zero]
  rw [hQ]
  exact ⟨rfl, rfl⟩
theorem m_rB {Qc : gm_R → gm_H → Prop} {P : gr_t → Prop} (hd : 1 ≤ d) (hn : t.1 0 5 = nI n) (hp : t.1 0 6 = nI p) (hn7 : n ≤ 700) (hc : p < n) (hb : t.1 1 p = 119 ∨ t.1 1 p = 122) (cc : gm_Ca E (d - 1) 43 [.ref m] (gr_H h m t) Qc) (k : ∀ r h', Qc r h' → ∃ w t', r = .inl (some (.int w)) ∧ h' = gr_H h m t' ∧ P t') : gm_Ca E d 44 [.ref m, .int (nI f)] (gr_H h m t) (gr_ps h m P) := by
  obtain ⟨Q, hQ⟩ : ∃ Q, Q = gr_ps h m P := ⟨_, rfl⟩
  rw [← hQ]
  have c1 : ¬ nI n ≤ nI p := by rw [Int32.not_le]; exact nI_lt hc (by omega)
  have b7 : p < 720 := by omega
  have x1 : ¬ (119 : Int32) = 120 := by decide
  have x2 : ¬ (122 : Int32) = 120 := by decide
  have x3 : ¬ (122 : Int32) = 119 := by decide
  have go : ∀ w, gm_W E d 44 61 [.ref m, .int (nI f), w, gm_u] [] (gr_H h m t) Q := fun w => by
    simp only [r44_0, r44_0n, r44_1, r44_4, r44_4n, r44_5, r44_8, r44_11, r44_11n, r44_12, r44_15, r44_15n, r44_16, r44_19, r44_20, r44_23, r44_24, r44_25, r44_26, r44_28, r44_31, r44_31n, r44_32, r44_32i, r44_33, r44_36, r44_37, r44_38, r44_41, r44_41n, r44_42, r44_46, r44_49, r44_50, r44_52, r44_55, r44_56, r44_58, r44_61, r44_61n, r44_65, r44_66, r44_69, r44_69n, r44_70, r44_71, r44_71n, r44_72, r44_75, r44_76, r44_77, r44_78, r44_79, r44_80, r44_84, i32_10, reduceIte, gm_cmp1, gm_cmp3, gm_cmp4, gm_kd_sf, gm_ln_sf, gm_sf_1, gm_sf_2, gm_nw_1, gm_nw_2, gm_k_int, gm_k_ref, gm_k_null, gm_k_u, gm_k_long, and_true, true_and, true_or, or_true, or_false, false_or, and_self, or_self, if_true, if_false, List.map_nil, List.map_cons, List.sum_nil, List.sum_cons, Nat.zero_le, Option.toList_some, Option.toList_none, List.cons_append, List.nil_append, ne_eq, not_false_eq_true, not_true_eq_false, nI_1, nI_add, Value.category, Nat.reduceAdd, Nat.reduceMod, Nat.reduceLeDiff, Nat.reduceLT, Nat.reduceEqDiff, Nat.reducePow, Nat.le_refl, Nat.add_left_cancel_iff, Nat.add_eq_left, Nat.left_eq_add, Nat.add_zero]
    refine c44_62 (by simp) g_k0 (by omega) cc (fun v9 h9 q => ?_) (fun x9 h9 q => ?_)
    · obtain ⟨w, t', e1, rfl, pt⟩ := k _ _ q
      cases e1
      simp only [r44_0, r44_0n, r44_1, r44_4, r44_4n, r44_5, r44_8, r44_11, r44_11n, r44_12, r44_15, r44_15n, r44_16, r44_19, r44_20, r44_23, r44_24, r44_25, r44_26, r44_28, r44_31, r44_31n, r44_32, r44_32i, r44_33, r44_36, r44_37, r44_38, r44_41, r44_41n, r44_42, r44_46, r44_49, r44_50, r44_52, r44_55, r44_56, r44_58, r44_61, r44_61n, r44_65, r44_66, r44_69, r44_69n, r44_70, r44_71, r44_71n, r44_72, r44_75, r44_76, r44_77, r44_78, r44_79, r44_80, r44_84, i32_10, reduceIte, gm_cmp1, gm_cmp3, gm_cmp4, gm_kd_sf, gm_ln_sf, gm_sf_1, gm_sf_2, gm_nw_1, gm_nw_2, gm_k_int, gm_k_ref, gm_k_null, gm_k_u, gm_k_long, and_true, true_and, true_or, or_true, or_false, false_or, and_self, or_self, if_true, if_false, List.map_nil, List.map_cons, List.sum_nil, List.sum_cons, Nat.zero_le, Option.toList_some, Option.toList_none, List.cons_append, List.nil_append, ne_eq, not_false_eq_true, not_true_eq_false, nI_1, nI_add, Value.category, Nat.reduceAdd, Nat.reduceMod, Nat.reduceLeDiff, Nat.reduceLT, Nat.reduceEqDiff, Nat.reducePow, Nat.le_refl, Nat.add_left_cancel_iff, Nat.add_eq_left, Nat.left_eq_add, Nat.add_zero]
      rw [hQ]
      exact gr_ps.ok pt
    · obtain ⟨w, t', e1, -⟩ := k _ _ q
      cases e1
  show gm_W E d 44 0 [.ref m, .int (nI f), gm_u, gm_u] [] (gr_H h m t) Q
  rcases hb with hb | hb
  · simp only [r44_0, r44_0n, r44_1, r44_4, r44_4n, r44_5, r44_8, r44_11, r44_11n, r44_12, r44_15, r44_15n, r44_16, r44_19, r44_20, r44_23, r44_24, r44_25, r44_26, r44_28, r44_31, r44_31n, r44_32, r44_32i, r44_33, r44_36, r44_37, r44_38, r44_41, r44_41n, r44_42, r44_46, r44_49, r44_50, r44_52, r44_55, r44_56, r44_58, r44_65, r44_66, r44_69, r44_69n, r44_70, r44_71, r44_71n, r44_72, r44_75, r44_76, r44_77, r44_78, r44_79, r44_80, r44_84, i32_10, reduceIte, gm_cmp1, gm_cmp3, gm_cmp4, gm_kd_sf, gm_ln_sf, gm_sf_1, gm_sf_2, gm_nw_1, gm_nw_2, gm_k_int, gm_k_ref, gm_k_null, gm_k_u, gm_k_long, and_true, true_and, true_or, or_true, or_false, false_or, and_self, or_self, if_true, if_false, List.map_nil, List.map_cons, List.sum_nil, List.sum_cons, Nat.zero_le, Option.toList_some, Option.toList_none, List.cons_append, List.nil_append, ne_eq, not_false_eq_true, not_true_eq_false, nI_1, nI_add, Value.category, Nat.reduceAdd, Nat.reduceMod, Nat.reduceLeDiff, Nat.reduceLT, Nat.reduceEqDiff, Nat.reducePow, Nat.le_refl, Nat.add_left_cancel_iff, Nat.add_eq_left, Nat.left_eq_add, Nat.add_zero, g_k0, g_k1, g_l1, g_p4, g_a1, g_w1, g_k2, g_l2, g_p10, g_a2, g_w2, g_k3, g_l3, g_p11, g_a3, g_w3, g_k4, g_l4, g_p12, g_a4, g_w4, g_k5, g_l5, g_p13, g_a5, g_w5, g_k6, g_l6, g_p14, g_a6, g_w6, g_k7, g_l7, g_p15, g_a7, g_w7, g_k8, g_l8, g_p16, g_a8, g_w8, g_k9, g_l9, g_p17, g_a9, g_w9, g_k10, g_l10, g_p18, g_a10, g_w10, g_k11, g_l11, g_p19, g_a11, g_w11, g_k12, g_l12, g_p20, g_a12, g_w12, g_k13, g_l13, g_p21, g_a13, g_w13, g_k14, g_l14, g_p22, g_a14, g_w14, g_k15, g_l15, g_p24, g_a15, g_w15, g_k16, g_l16, g_p26, g_a16, g_w16, g_k17, g_l17, g_p27, g_a17, g_w17, g_k18, g_l18, g_p29, g_a18, g_w18, g_k19, g_l19, g_p30, g_a19, g_w19, g_k20, g_l20, g_p31, g_a20, g_w20, g_k21, g_l21, g_p32, g_a21, g_w21, g_k22, g_l22, g_p33, g_a22, g_w22, g_k23, g_l23, g_p34, g_a23, g_w23, g_k24, g_l24, g_p35, g_a24, g_w24, g_k25, g_l25, g_p36, g_a25, g_w25, g_k26, g_l26, g_p37, g_a26, g_w26, g_k27, g_l27, g_p38, g_a27, g_w27, g_k28, g_l28, g_p40, g_a28, g_w28, g_k29, g_l29, g_p41, g_a29, g_w29, g_k30, g_l30, g_p42, g_a30, g_w30, g_k31, g_l31, g_p43, g_a31, g_w31, g_k32, g_l32, g_p44, g_a32, g_w32, g_k33, g_l33, g_p45, g_a33, g_w33, g_k34, g_l34, g_p46, g_a34, g_w34, g_f0, g_s0, g_f1, g_s1, g_f2, g_s2, g_f3, g_s3, g_f5, g_s5, g_f6, g_s6, g_f7, g_s7, g_f8, g_s8, g_f9, g_s9, g_f23, g_s23, g_f25, g_s25, g_f28, g_s28, g_f39, g_s39, g_f47, g_s47, gr_ui_eq, gr_ui_2, gr_ul_eq, gr_ul_1, gr_ui_no, gr_ui_ni, gr_ul_no, gr_ul_ni, hn, hp, c1, b7, hb, eq_self, x1]
    exact go _
  · simp only [r44_0, r44_0n, r44_1, r44_4, r44_4n, r44_5, r44_8, r44_11, r44_11n, r44_12, r44_15, r44_15n, r44_16, r44_19, r44_20, r44_23, r44_24, r44_25, r44_26, r44_28, r44_31, r44_31n, r44_32, r44_32i, r44_33, r44_36, r44_37, r44_38, r44_41, r44_41n, r44_42, r44_46, r44_49, r44_50, r44_52, r44_55, r44_56, r44_58, r44_65, r44_66, r44_69, r44_69n, r44_70, r44_71, r44_71n, r44_72, r44_75, r44_76, r44_77, r44_78, r44_79, r44_80, r44_84, i32_10, reduceIte, gm_cmp1, gm_cmp3, gm_cmp4, gm_kd_sf, gm_ln_sf, gm_sf_1, gm_sf_2, gm_nw_1, gm_nw_2, gm_k_int, gm_k_ref, gm_k_null, gm_k_u, gm_k_long, and_true, true_and, true_or, or_true, or_false, false_or, and_self, or_self, if_true, if_false, List.map_nil, List.map_cons, List.sum_nil, List.sum_cons, Nat.zero_le, Option.toList_some, Option.toList_none, List.cons_append, List.nil_append, ne_eq, not_false_eq_true, not_true_eq_false, nI_1, nI_add, Value.category, Nat.reduceAdd, Nat.reduceMod, Nat.reduceLeDiff, Nat.reduceLT, Nat.reduceEqDiff, Nat.reducePow, Nat.le_refl, Nat.add_left_cancel_iff, Nat.add_eq_left, Nat.left_eq_add, Nat.add_zero, g_k0, g_k1, g_l1, g_p4, g_a1, g_w1, g_k2, g_l2, g_p10, g_a2, g_w2, g_k3, g_l3, g_p11, g_a3, g_w3, g_k4, g_l4, g_p12, g_a4, g_w4, g_k5, g_l5, g_p13, g_a5, g_w5, g_k6, g_l6, g_p14, g_a6, g_w6, g_k7, g_l7, g_p15, g_a7, g_w7, g_k8, g_l8, g_p16, g_a8, g_w8, g_k9, g_l9, g_p17, g_a9, g_w9, g_k10, g_l10, g_p18, g_a10, g_w10, g_k11, g_l11, g_p19, g_a11, g_w11, g_k12, g_l12, g_p20, g_a12, g_w12, g_k13, g_l13, g_p21, g_a13, g_w13, g_k14, g_l14, g_p22, g_a14, g_w14, g_k15, g_l15, g_p24, g_a15, g_w15, g_k16, g_l16, g_p26, g_a16, g_w16, g_k17, g_l17, g_p27, g_a17, g_w17, g_k18, g_l18, g_p29, g_a18, g_w18, g_k19, g_l19, g_p30, g_a19, g_w19, g_k20, g_l20, g_p31, g_a20, g_w20, g_k21, g_l21, g_p32, g_a21, g_w21, g_k22, g_l22, g_p33, g_a22, g_w22, g_k23, g_l23, g_p34, g_a23, g_w23, g_k24, g_l24, g_p35, g_a24, g_w24, g_k25, g_l25, g_p36, g_a25, g_w25, g_k26, g_l26, g_p37, g_a26, g_w26, g_k27, g_l27, g_p38, g_a27, g_w27, g_k28, g_l28, g_p40, g_a28, g_w28, g_k29, g_l29, g_p41, g_a29, g_w29, g_k30, g_l30, g_p42, g_a30, g_w30, g_k31, g_l31, g_p43, g_a31, g_w31, g_k32, g_l32, g_p44, g_a32, g_w32, g_k33, g_l33, g_p45, g_a33, g_w33, g_k34, g_l34, g_p46, g_a34, g_w34, g_f0, g_s0, g_f1, g_s1, g_f2, g_s2, g_f3, g_s3, g_f5, g_s5, g_f6, g_s6, g_f7, g_s7, g_f8, g_s8, g_f9, g_s9, g_f23, g_s23, g_f25, g_s25, g_f28, g_s28, g_f39, g_s39, g_f47, g_s47, gr_ui_eq, gr_ui_2, gr_ul_eq, gr_ul_1, gr_ui_no, gr_ui_ni, gr_ul_no, gr_ul_ni, hn, hp, c1, b7, hb, eq_self, x2, x3]
    exact go _
theorem m_rP (hd : 1 ≤ d) (hf : f < 79) (h47 : t.1 0 47 = nI (f + 1)) (hn : t.1 0 5 = nI n) (hp : t.1 0 6 = nI p) (hn7 : n ≤ 700) (hp7 : p ≤ n) (hb : p < n → t.1 1 p ≠ 120 ∧ t.1 1 p ≠ 119 ∧ t.1 1 p ≠ 122) : gm_Ca E d 44 [.ref m, .int (nI f)] (gr_H h m t) (gx_v none (gr_H h m (gr_push t (f + 1) 1 (t.1 30 f + 1) 0 0))) := by
  obtain ⟨Q, hQ⟩ : ∃ Q, Q = gx_v none (gr_H h m (gr_push t (f + 1) 1 (t.1 30 f + 1) 0 0)) := ⟨_, rfl⟩
  rw [← hQ]
  have f80 : f < 80 := by omega
  have x1 : ¬ (-1 : Int32) = 120 := by decide
  have x2 : ¬ (-1 : Int32) = 119 := by decide
  have x3 : ¬ (-1 : Int32) = 122 := by decide
  have go : ∀ w, gm_W E d 44 69 [.ref m, .int (nI f), w, gm_u] [] (gr_H h m t) Q := fun w => by
    simp only [r44_0, r44_0n, r44_1, r44_4, r44_4n, r44_5, r44_8, r44_11, r44_11n, r44_12, r44_15, r44_15n, r44_16, r44_19, r44_20, r44_23, r44_24, r44_25, r44_26, r44_28, r44_31, r44_31n, r44_32, r44_32i, r44_33, r44_36, r44_37, r44_38, r44_41, r44_41n, r44_42, r44_46, r44_49, r44_50, r44_52, r44_55, r44_56, r44_58, r44_61, r44_61n, r44_65, r44_66, r44_69, r44_69n, r44_70, r44_71, r44_71n, r44_72, r44_75, r44_76, r44_77, r44_78, r44_79, r44_80, r44_84, i32_10, reduceIte, gm_cmp1, gm_cmp3, gm_cmp4, gm_kd_sf, gm_ln_sf, gm_sf_1, gm_sf_2, gm_nw_1, gm_nw_2, gm_k_int, gm_k_ref, gm_k_null, gm_k_u, gm_k_long, and_true, true_and, true_or, or_true, or_false, false_or, and_self, or_self, if_true, if_false, List.map_nil, List.map_cons, List.sum_nil, List.sum_cons, Nat.zero_le, Option.toList_some, Option.toList_none, List.cons_append, List.nil_append, ne_eq, not_false_eq_true, not_true_eq_false, nI_1, nI_add, Value.category, Nat.reduceAdd, Nat.reduceMod, Nat.reduceLeDiff, Nat.reduceLT, Nat.reduceEqDiff, Nat.reducePow, Nat.le_refl, Nat.add_left_cancel_iff, Nat.add_eq_left, Nat.left_eq_add, Nat.add_zero, g_k0, g_k1, g_l1, g_p4, g_a1, g_w1, g_k2, g_l2, g_p10, g_a2, g_w2, g_k3, g_l3, g_p11, g_a3, g_w3, g_k4, g_l4, g_p12, g_a4, g_w4, g_k5, g_l5, g_p13, g_a5, g_w5, g_k6, g_l6, g_p14, g_a6, g_w6, g_k7, g_l7, g_p15, g_a7, g_w7, g_k8, g_l8, g_p16, g_a8, g_w8, g_k9, g_l9, g_p17, g_a9, g_w9, g_k10, g_l10, g_p18, g_a10, g_w10, g_k11, g_l11, g_p19, g_a11, g_w11, g_k12, g_l12, g_p20, g_a12, g_w12, g_k13, g_l13, g_p21, g_a13, g_w13, g_k14, g_l14, g_p22, g_a14, g_w14, g_k15, g_l15, g_p24, g_a15, g_w15, g_k16, g_l16, g_p26, g_a16, g_w16, g_k17, g_l17, g_p27, g_a17, g_w17, g_k18, g_l18, g_p29, g_a18, g_w18, g_k19, g_l19, g_p30, g_a19, g_w19, g_k20, g_l20, g_p31, g_a20, g_w20, g_k21, g_l21, g_p32, g_a21, g_w21, g_k22, g_l22, g_p33, g_a22, g_w22, g_k23, g_l23, g_p34, g_a23, g_w23, g_k24, g_l24, g_p35, g_a24, g_w24, g_k25, g_l25, g_p36, g_a25, g_w25, g_k26, g_l26, g_p37, g_a26, g_w26, g_k27, g_l27, g_p38, g_a27, g_w27, g_k28, g_l28, g_p40, g_a28, g_w28, g_k29, g_l29, g_p41, g_a29, g_w29, g_k30, g_l30, g_p42, g_a30, g_w30, g_k31, g_l31, g_p43, g_a31, g_w31, g_k32, g_l32, g_p44, g_a32, g_w32, g_k33, g_l33, g_p45, g_a33, g_w33, g_k34, g_l34, g_p46, g_a34, g_w34, g_f0, g_s0, g_f1, g_s1, g_f2, g_s2, g_f3, g_s3, g_f5, g_s5, g_f6, g_s6, g_f7, g_s7, g_f8, g_s8, g_f9, g_s9, g_f23, g_s23, g_f25, g_s25, g_f28, g_s28, g_f39, g_s39, g_f47, g_s47, gr_ui_eq, gr_ui_2, gr_ul_eq, gr_ul_1, gr_ui_no, gr_ui_ni, gr_ul_no, gr_ul_ni, f80]
    refine c44_81 (by simp) g_k0 (by omega) (m_push h47 (by omega)) (gx_kn ?_) gx_kx
    simp only [r44_0, r44_0n, r44_1, r44_4, r44_4n, r44_5, r44_8, r44_11, r44_11n, r44_12, r44_15, r44_15n, r44_16, r44_19, r44_20, r44_23, r44_24, r44_25, r44_26, r44_28, r44_31, r44_31n, r44_32, r44_32i, r44_33, r44_36, r44_37, r44_38, r44_41, r44_41n, r44_42, r44_46, r44_49, r44_50, r44_52, r44_55, r44_56, r44_58, r44_61, r44_61n, r44_65, r44_66, r44_69, r44_69n, r44_70, r44_71, r44_71n, r44_72, r44_75, r44_76, r44_77, r44_78, r44_79, r44_80, r44_84, i32_10, reduceIte, gm_cmp1, gm_cmp3, gm_cmp4, gm_kd_sf, gm_ln_sf, gm_sf_1, gm_sf_2, gm_nw_1, gm_nw_2, gm_k_int, gm_k_ref, gm_k_null, gm_k_u, gm_k_long, and_true, true_and, true_or, or_true, or_false, false_or, and_self, or_self, if_true, if_false, List.map_nil, List.map_cons, List.sum_nil, List.sum_cons, Nat.zero_le, Option.toList_some, Option.toList_none, List.cons_append, List.nil_append, ne_eq, not_false_eq_true, not_true_eq_false, nI_1, nI_add, Value.category, Nat.reduceAdd, Nat.reduceMod, Nat.reduceLeDiff, Nat.reduceLT, Nat.reduceEqDiff, Nat.reducePow, Nat.le_refl, Nat.add_left_cancel_iff, Nat.add_eq_left, Nat.left_eq_add, Nat.add_zero]
    rw [hQ]
    exact ⟨rfl, rfl⟩
  show gm_W E d 44 0 [.ref m, .int (nI f), gm_u, gm_u] [] (gr_H h m t) Q
  rcases Nat.lt_or_ge p n with z | z
  · have c1 : ¬ nI n ≤ nI p := by rw [Int32.not_le]; exact nI_lt z (by omega)
    have b7 : p < 720 := by omega
    obtain ⟨y1, y2, y3⟩ := hb z
    simp only [r44_0, r44_0n, r44_1, r44_4, r44_4n, r44_5, r44_8, r44_11, r44_11n, r44_12, r44_15, r44_15n, r44_16, r44_19, r44_20, r44_23, r44_24, r44_25, r44_26, r44_28, r44_31, r44_31n, r44_32, r44_32i, r44_33, r44_36, r44_37, r44_38, r44_41, r44_41n, r44_42, r44_46, r44_49, r44_50, r44_52, r44_55, r44_56, r44_58, r44_61, r44_61n, r44_65, r44_66, r44_70, r44_71, r44_71n, r44_72, r44_75, r44_76, r44_77, r44_78, r44_79, r44_80, r44_84, i32_10, reduceIte, gm_cmp1, gm_cmp3, gm_cmp4, gm_kd_sf, gm_ln_sf, gm_sf_1, gm_sf_2, gm_nw_1, gm_nw_2, gm_k_int, gm_k_ref, gm_k_null, gm_k_u, gm_k_long, and_true, true_and, true_or, or_true, or_false, false_or, and_self, or_self, if_true, if_false, List.map_nil, List.map_cons, List.sum_nil, List.sum_cons, Nat.zero_le, Option.toList_some, Option.toList_none, List.cons_append, List.nil_append, ne_eq, not_false_eq_true, not_true_eq_false, nI_1, nI_add, Value.category, Nat.reduceAdd, Nat.reduceMod, Nat.reduceLeDiff, Nat.reduceLT, Nat.reduceEqDiff, Nat.reducePow, Nat.le_refl, Nat.add_left_cancel_iff, Nat.add_eq_left, Nat.left_eq_add, Nat.add_zero, g_k0, g_k1, g_l1, g_p4, g_a1, g_w1, g_k2, g_l2, g_p10, g_a2, g_w2, g_k3, g_l3, g_p11, g_a3, g_w3, g_k4, g_l4, g_p12, g_a4, g_w4, g_k5, g_l5, g_p13, g_a5, g_w5, g_k6, g_l6, g_p14, g_a6, g_w6, g_k7, g_l7, g_p15, g_a7, g_w7, g_k8, g_l8, g_p16, g_a8, g_w8, g_k9, g_l9, g_p17, g_a9, g_w9, g_k10, g_l10, g_p18, g_a10, g_w10, g_k11, g_l11, g_p19, g_a11, g_w11, g_k12, g_l12, g_p20, g_a12, g_w12, g_k13, g_l13, g_p21, g_a13, g_w13, g_k14, g_l14, g_p22, g_a14, g_w14, g_k15, g_l15, g_p24, g_a15, g_w15, g_k16, g_l16, g_p26, g_a16, g_w16, g_k17, g_l17, g_p27, g_a17, g_w17, g_k18, g_l18, g_p29, g_a18, g_w18, g_k19, g_l19, g_p30, g_a19, g_w19, g_k20, g_l20, g_p31, g_a20, g_w20, g_k21, g_l21, g_p32, g_a21, g_w21, g_k22, g_l22, g_p33, g_a22, g_w22, g_k23, g_l23, g_p34, g_a23, g_w23, g_k24, g_l24, g_p35, g_a24, g_w24, g_k25, g_l25, g_p36, g_a25, g_w25, g_k26, g_l26, g_p37, g_a26, g_w26, g_k27, g_l27, g_p38, g_a27, g_w27, g_k28, g_l28, g_p40, g_a28, g_w28, g_k29, g_l29, g_p41, g_a29, g_w29, g_k30, g_l30, g_p42, g_a30, g_w30, g_k31, g_l31, g_p43, g_a31, g_w31, g_k32, g_l32, g_p44, g_a32, g_w32, g_k33, g_l33, g_p45, g_a33, g_w33, g_k34, g_l34, g_p46, g_a34, g_w34, g_f0, g_s0, g_f1, g_s1, g_f2, g_s2, g_f3, g_s3, g_f5, g_s5, g_f6, g_s6, g_f7, g_s7, g_f8, g_s8, g_f9, g_s9, g_f23, g_s23, g_f25, g_s25, g_f28, g_s28, g_f39, g_s39, g_f47, g_s47, gr_ui_eq, gr_ui_2, gr_ul_eq, gr_ul_1, gr_ui_no, gr_ui_ni, gr_ul_no, gr_ul_ni, hn, hp, c1, b7, y1, y2, y3]
    exact go _
  · have c1 : nI n ≤ nI p := by rw [← Int32.not_lt]; exact nI_nlt z (by omega)
    simp only [r44_0, r44_0n, r44_1, r44_4, r44_4n, r44_5, r44_8, r44_11, r44_11n, r44_12, r44_15, r44_15n, r44_16, r44_19, r44_20, r44_23, r44_24, r44_25, r44_26, r44_28, r44_31, r44_31n, r44_32, r44_32i, r44_33, r44_36, r44_37, r44_38, r44_41, r44_41n, r44_42, r44_46, r44_49, r44_50, r44_52, r44_55, r44_56, r44_58, r44_61, r44_61n, r44_65, r44_66, r44_70, r44_71, r44_71n, r44_72, r44_75, r44_76, r44_77, r44_78, r44_79, r44_80, r44_84, i32_10, reduceIte, gm_cmp1, gm_cmp3, gm_cmp4, gm_kd_sf, gm_ln_sf, gm_sf_1, gm_sf_2, gm_nw_1, gm_nw_2, gm_k_int, gm_k_ref, gm_k_null, gm_k_u, gm_k_long, and_true, true_and, true_or, or_true, or_false, false_or, and_self, or_self, if_true, if_false, List.map_nil, List.map_cons, List.sum_nil, List.sum_cons, Nat.zero_le, Option.toList_some, Option.toList_none, List.cons_append, List.nil_append, ne_eq, not_false_eq_true, not_true_eq_false, nI_1, nI_add, Value.category, Nat.reduceAdd, Nat.reduceMod, Nat.reduceLeDiff, Nat.reduceLT, Nat.reduceEqDiff, Nat.reducePow, Nat.le_refl, Nat.add_left_cancel_iff, Nat.add_eq_left, Nat.left_eq_add, Nat.add_zero, g_k0, g_k1, g_l1, g_p4, g_a1, g_w1, g_k2, g_l2, g_p10, g_a2, g_w2, g_k3, g_l3, g_p11, g_a3, g_w3, g_k4, g_l4, g_p12, g_a4, g_w4, g_k5, g_l5, g_p13, g_a5, g_w5, g_k6, g_l6, g_p14, g_a6, g_w6, g_k7, g_l7, g_p15, g_a7, g_w7, g_k8, g_l8, g_p16, g_a8, g_w8, g_k9, g_l9, g_p17, g_a9, g_w9, g_k10, g_l10, g_p18, g_a10, g_w10, g_k11, g_l11, g_p19, g_a11, g_w11, g_k12, g_l12, g_p20, g_a12, g_w12, g_k13, g_l13, g_p21, g_a13, g_w13, g_k14, g_l14, g_p22, g_a14, g_w14, g_k15, g_l15, g_p24, g_a15, g_w15, g_k16, g_l16, g_p26, g_a16, g_w16, g_k17, g_l17, g_p27, g_a17, g_w17, g_k18, g_l18, g_p29, g_a18, g_w18, g_k19, g_l19, g_p30, g_a19, g_w19, g_k20, g_l20, g_p31, g_a20, g_w20, g_k21, g_l21, g_p32, g_a21, g_w21, g_k22, g_l22, g_p33, g_a22, g_w22, g_k23, g_l23, g_p34, g_a23, g_w23, g_k24, g_l24, g_p35, g_a24, g_w24, g_k25, g_l25, g_p36, g_a25, g_w25, g_k26, g_l26, g_p37, g_a26, g_w26, g_k27, g_l27, g_p38, g_a27, g_w27, g_k28, g_l28, g_p40, g_a28, g_w28, g_k29, g_l29, g_p41, g_a29, g_w29, g_k30, g_l30, g_p42, g_a30, g_w30, g_k31, g_l31, g_p43, g_a31, g_w31, g_k32, g_l32, g_p44, g_a32, g_w32, g_k33, g_l33, g_p45, g_a33, g_w33, g_k34, g_l34, g_p46, g_a34, g_w34, g_f0, g_s0, g_f1, g_s1, g_f2, g_s2, g_f3, g_s3, g_f5, g_s5, g_f6, g_s6, g_f7, g_s7, g_f8, g_s8, g_f9, g_s9, g_f23, g_s23, g_f25, g_s25, g_f28, g_s28, g_f39, g_s39, g_f47, g_s47, gr_ui_eq, gr_ui_2, gr_ul_eq, gr_ul_1, gr_ui_no, gr_ui_ni, gr_ul_no, gr_ul_ni, hn, hp, c1, x1, x2, x3]
    exact go _
theorem gr_push_fr {tp : Nat} {k dd a b : Int32} : (gr_push t tp k dd a b).1 28 tp = k ∧ (gr_push t tp k dd a b).1 29 tp = 0 ∧ (gr_push t tp k dd a b).1 30 tp = dd ∧ (gr_push t tp k dd a b).1 31 tp = a ∧ (gr_push t tp k dd a b).1 32 tp = b ∧ (gr_push t tp k dd a b).1 33 tp = 0 ∧ (gr_push t tp k dd a b).1 34 tp = 0 ∧ (gr_push t tp k dd a b).1 0 47 = nI (tp + 1) ∧ (gr_push t tp k dd a b).1 0 8 = t.1 0 8 := by
  unfold gr_push
  simp [gr_ui]
theorem gs_blk_lt {a : Int32} {s1 : gs_S} (e : gs_blk K s = .ok (a, s1)) : gs_pl s < gs_pl s1 := by
  unfold gs_blk at e
  cases e1 : gs_u1 K s with
  | error f => rw [gs_b_er e1] at e; cases e
  | ok w =>
    rw [gs_b_ok (a := w.1) (s1 := w.2) e1] at e
    have a1 := (gs_u1_ok (t := w.1) (s1 := w.2) e1).2.1
    have nx : ∀ k v, gs_nxt K k w.2 = .ok v → gs_pl w.2 ≤ gs_pl v.2 := fun k v hv => by
      rw [(gs_nxt_eq (v := v.1) (s1 := v.2) hv).2]
      exact Nat.le_add_right _ _
    have l1 : gs_pl w.2 = gs_pl s + 1 := by rw [a1]; rfl
    have fin : ∀ (v : Int32 × gs_S), gs_pl w.2 ≤ gs_pl v.2 → (if v.1 < 0 then (.error (-4) : Except Int32 (Int32 × gs_S)) else if gs_n K - gs_pl v.2 < v.1.toNatClampNeg then .error (-3) else .ok (v.1, gs_p (gs_pl v.2 + v.1.toNatClampNeg) v.2)) = .ok (a, s1) → gs_pl s < gs_pl s1 := by
      intro v hv z
      split at z
      · cases z
      · split at z
        · cases z
        · cases z
          show gs_pl s < gs_pl v.2 + v.1.toNatClampNeg
          omega
    by_cases c : w.1 = 119
    · rw [if_pos c] at e
      unfold gs_u1 at e
      cases e2 : gs_nxt K 1 w.2 with
      | error f => unfold gs_b at e; rw [e2] at e; cases e
      | ok v => unfold gs_b at e; rw [e2] at e; exact fin (v.1.toInt32, v.2) (nx _ v e2) e
    · rw [if_neg c] at e
      unfold gs_u4 at e
      cases e2 : gs_nxt K 4 w.2 with
      | error f => unfold gs_b at e; rw [e2] at e; cases e
      | ok v => unfold gs_b at e; rw [e2] at e; exact fin (v.1.toInt32, v.2) (nx _ v e2) e
theorem gr_rest (RC : gr_RC E d h m K (dp + 1) rc) (hK : gs_rst K = true) (hd : 10 ≤ d) (hdp : 1 ≤ dp ∧ dp ≤ 8) {B : Nat} (hB : 14 * (69 - dp) ≤ B) : ∀ (k : Nat) (X : Nat → Prop) (c us nd f : Nat) (t : gr_t) (s : gs_S), gr_Y X c us nd t K s → t.1 0 8 = 0 → t.1 0 47 = nI (f + 1) → (t.1 28 f = 4 ∧ t.1 30 f = nI dp) → 14 * f + 14 ≤ 42 * dp + gs_pl s → 14 * gs_size s ≤ B + gs_pl s → gs_n K < gs_pl s + k → gr_Rn E d h m (gr_O K X c us nd f f t s (fun _ s' _ _ => 14 * gs_size s' ≤ B + gs_pl s' ∧ gs_pl s < gs_pl s') (gs_rest K rc k s)) t := by
  intro k
  induction k with
  | zero => intro X c us nd f t s Y h8 h47 hf h14 hsz hk; have := Y.pn; omega
  | succ k ih =>
    intro X c us nd f t s Y h8 h47 hf h14 hsz hk
    have n7 := Y.n7
    have pn := Y.pn
    have f80 : f < 79 := by omega
    -- a read, then the rest
    have rd : (gs_pl s < gs_n K → t.1 1 (gs_pl s) ≠ 120 ∧ t.1 1 (gs_pl s) ≠ 119 ∧ t.1 1 (gs_pl s) ≠ 122) → gs_rest K rc (k + 1) s = gs_b rc (fun _ => gs_rest K rc k) s → gr_Rn E d h m (gr_O K X c us nd f f t s (fun _ s' _ _ => 14 * gs_size s' ≤ B + gs_pl s' ∧ gs_pl s < gs_pl s') (gs_rest K rc (k + 1) s)) t := by
      intro hb e
      rw [e]
      refine .step h47 (by omega) h8 (gr_st4 (by omega) h47 (by omega) hf.1 (gm_Ca.mono (m_rP (by omega) f80 h47 Y.B.1 Y.pl n7 pn hb) (fun r h' q => gr_ps.v rfl rfl q))) (fun t1 e1 => ?_)
      subst e1
      obtain ⟨p1, p2, p3, p4, p5, p6, p7, p8, p9⟩ := gr_push_fr (t := t) (tp := f + 1) (k := 1) (dd := t.1 30 f + 1) (a := 0) (b := 0)
      have e30 : t.1 30 f + 1 = nI (dp + 1) := by rw [hf.2]; exact nI_1 dp
      have Y1 := Y.hm (gr_hm.refl.push (p := f + 1) (k := 1) (d := t.1 30 f + 1) (a := 0) (b := 0))
      refine (RC X c us nd (f + 1) _ s Y1 (p9.trans h8) p8 ⟨p1, p2, p3.trans e30⟩ (by omega) (fun z => by omega)).bind (fun t2 q2 => ?_)
      have fr1 : gr_fr (f + 1) t (gr_push t (f + 1) 1 (t.1 30 f + 1) 0 0) := gr_fr.refl.push (Nat.le_refl _)
      have q3 := q2.from (f := f + 1) ⟨Nat.le_refl us, Nat.le_refl nd⟩ fr1 (Nat.le_refl _) (gr_hm.eh gr_hm.refl.push) (gr_hm.kp gr_hm.refl.push) (gs_ap.refl (s := s))
      refine gr_O.seq (k := fun _ => gs_rest K rc k) q3 (fun a s1 us' nd' er g1 Y2 g8 g47 g3 g6 g4 g5 v => ?_)
      obtain ⟨v1, v2, v3, v4⟩ := v
      have ff : t2.1 28 f = 4 ∧ t2.1 30 f = nI dp := ⟨by rw [g3 28 f (by omega) (by omega) (by omega)]; exact hf.1, by rw [g3 30 f (by omega) (by omega) (by omega)]; exact hf.2⟩
      exact (ih X c us' nd' f t2 s1 Y2 g8 g47 ff (by omega) (by omega) (by omega)).mono (fun t3 q4 => (q4.from (f := f) g1 (g3.wk (Nat.le_succ f)) (Nat.le_refl _) g6 g4 g5).mono (fun _ s2 _ y => ⟨y.1, by omega⟩))
    obtain ⟨i119, i122, i120, -⟩ := gr_by (K := K) (i := gs_pl s)
    rcases Nat.lt_or_ge (gs_pl s) (gs_n K) with z | z
    · have by1 := Y.B.2.2 (gs_pl s) z
      have c1 : ¬ gs_n K ≤ gs_pl s := by omega
      by_cases y1 : gs_sb K (gs_pl s) = 120
      · have e : gs_rest K rc (k + 1) s = .ok ((), gs_p (gs_pl s + 1) s) := by
          show (if gs_n K ≤ gs_pl s then _ else if gs_sb K (gs_pl s) = 120 then _ else _) = _
          rw [if_neg c1, if_pos y1]
        refine .step h47 (by omega) h8 (gr_st4 (by omega) h47 (by omega) hf.1 (gm_Ca.mono (m_rE (by omega) Y.B.1 Y.pl n7 z (by rw [by1]; exact i120.mpr y1)) (fun r h' q => gr_ps.v rfl rfl q))) (fun t1 e1 => ?_)
        subst e1
        refine .done (gr_O.give e ⟨Nat.le_refl _, Nat.le_refl _⟩ ((Y.place (k := 1) (by omega)).wk (by omega)) (by rw [gr_ui_ni (by decide)]; exact h8) (by rw [gr_ui_ni (by decide)]; exact h47) (gr_fr.refl.ui (by omega)) (gr_eh.refl.ui (by omega)) (gr_kp.refl.ui (by unfold gr_pr; omega)) (gs_ap.p (by omega)) ?_)
        show 14 * gs_size s ≤ B + (gs_pl s + 1) ∧ gs_pl s < gs_pl s + 1
        omega
      · by_cases y2 : gs_isB (gs_sb K (gs_pl s)) = true
        · have e : gs_rest K rc (k + 1) s = gs_b (gs_blk K) (fun _ => gs_rest K rc k) s := by
            show (if gs_n K ≤ gs_pl s then _ else if gs_sb K (gs_pl s) = 120 then _ else if gs_isB (gs_sb K (gs_pl s)) = true then _ else _) = _
            rw [if_neg c1, if_neg y1, if_pos y2]
          rw [e]
          have bb : t.1 1 (gs_pl s) = 119 ∨ t.1 1 (gs_pl s) = 122 := by
            rw [by1]
            unfold gs_isB at y2
            simp at y2
            rcases y2 with y | y
            · exact Or.inl (i119.mpr y)
            · exact Or.inr (i122.mpr y)
          have blk := m_block (E := E) (d := d - 2) (h := h) (m := m) (by omega) Y.B Y.pl pn h8
          refine .step h47 (by omega) h8 (gr_st4 (P := fun t1 => match gs_blk K s with
            | .ok q => t1 = gr_ui t 0 6 (nI (gs_pl q.2))
            | .error x => gr_er t t1 x) (by omega) h47 (by omega) hf.1 (m_rB (by omega) Y.B.1 Y.pl n7 z bb blk (fun r h' q => ?_))) (fun t1 e1 => ?_)
          · unfold gr_q at q
            cases eb : gs_blk K s with
            | ok w => rw [eb] at q; exact ⟨_, _, q.1, q.2, rfl⟩
            | error x => rw [eb] at q; obtain ⟨w, t', q1, q2, q3⟩ := q; exact ⟨w, t', q1, q2, q3⟩
          · cases eb : gs_blk K s with
            | error x =>
              rw [eb] at e1
              exact .done (gr_O.er (gs_b_er eb) (gr_er.F e1))
            | ok w =>
              rw [eb] at e1
              subst e1
              obtain ⟨b1, b2, b3⟩ := gs_blk_pl eb pn
              have b4 := gs_blk_lt (a := w.1) (s1 := w.2) eb
              rw [gs_b_ok (a := w.1) (s1 := w.2) eb]
              have Y1 := (Y.to (k := 0) b1 b2 b3)
              have ap : gs_ap s w.2 := ⟨by unfold gs_hp; rw [b1]; exact List.prefix_refl _, by unfold gs_hs; rw [b1]; exact List.prefix_refl _, by unfold gs_f1; rw [b1], b2⟩
              have sz : gs_size w.2 = gs_size s := by unfold gs_size gs_hs gs_f1; rw [b1]
              refine (ih X c us nd f _ w.2 Y1 (by rw [gr_ui_ni (by decide)]; exact h8) (by rw [gr_ui_ni (by decide)]; exact h47) ⟨by rw [gr_ui_no (by decide)]; exact hf.1, by rw [gr_ui_no (by decide)]; exact hf.2⟩ (by omega) (by omega) (by omega)).mono (fun t3 q4 => ?_)
              exact (q4.from (f := f) ⟨Nat.le_refl us, Nat.le_refl nd⟩ (gr_fr.refl.ui (by omega)) (Nat.le_refl _) (gr_eh.refl.ui (by omega)) (gr_kp.refl.ui (by unfold gr_pr; omega)) ap).mono (fun _ s2 _ y => ⟨y.1, by omega⟩)
        · refine rd (fun _ => ?_) ?_
          · rw [by1]
            unfold gs_isB at y2
            simp at y2
            exact ⟨fun q => y1 (i120.mp q), fun q => y2.1 (i119.mp q), fun q => y2.2 (i122.mp q)⟩
          · show (if gs_n K ≤ gs_pl s then _ else if gs_sb K (gs_pl s) = 120 then _ else if gs_isB (gs_sb K (gs_pl s)) = true then _ else _) = _
            rw [if_neg c1, if_neg y1, if_neg y2]
    · refine rd (fun q => absurd q (by omega)) ?_
      show (if gs_n K ≤ gs_pl s then (if gs_rst K = true then _ else _) else _) = _
      rw [if_pos z, if_pos hK]
end N5
