/-! THE REFERENCE, 43: a text. -/
section NG
variable {X N : Nat → Prop} {E : Nat → Value} {d m f n p dp c us nd k e o j cnt hb ub nb B pp : Nat} {h : gm_H} {t t' : gr_t} {K : gs_K} {s s' s'' : gs_S} {rc : gs_M Int32} {P : gr_t → Prop} {l : gs_L} {Q : gm_R → gm_H → Prop}
def gr_txt (t : gr_t) (e o p a n : Nat) : gr_t := gr_give (gr_ui (gr_ui (gr_make (gr_ui (gr_ent t e 0 0) 0 6 (nI p)) o 1 (-1) (nI n) (nI a)) 16 e 2) 17 e (nI o)) (nI o)
theorem m_sR116 (hd : 4 ≤ d) (he : t.1 0 28 = nI e) (h130 : e < 130) (ho : t.1 0 23 = nI o) (h720 : o < 720) (B : gr_B t K) (hp : t.1 0 6 = nI (gs_pl s)) (hpn : gs_pl s ≤ gs_n K) (h8 : t.1 0 8 = 0) : gm_W E d 23 40 [.ref m, .int (nI f), .int 116, gm_u, gm_u, gm_u] [] (gr_H h m t) (gr_ps h m (fun t' => match gs_utf K s with
    | .error x => gr_er (gr_ent t e 0 0) t' x
    | .ok q => t' = gr_txt t e o (gs_pl q.2) q.1 (gs_pl q.2 - q.1))) := by
  obtain ⟨Q, hQ⟩ : ∃ Q, Q = gr_ps h m (fun t' => match gs_utf K s with
    | .error x => gr_er (gr_ent t e 0 0) t' x
    | .ok q => t' = gr_txt t e o (gs_pl q.2) q.1 (gs_pl q.2 - q.1)) := ⟨_, rfl⟩
  rw [← hQ]
  have n7 := B.2.1
  have x1 : ¬ (116 : Int32) = 112 := by decide
  have x2 : ¬ (116 : Int32) = 113 := by decide
  simp only [r23_0, r23_0n, r23_1, r23_4, r23_5, r23_6, r23_8, r23_11, r23_11n, r23_12, r23_15, r23_17, r23_20, r23_20n, r23_21, r23_26, r23_27, r23_27n, r23_31, r23_32, r23_32n, r23_33, r23_36, r23_39, r23_40, r23_41, r23_43, r23_46, r23_46n, r23_47, r23_52, r23_55, r23_56, r23_58, r23_61, r23_61n, r23_62, r23_63, r23_67, r23_70, r23_71, r23_73, r23_76, r23_76n, r23_77, r23_78, r23_82, r23_83, r23_83n, r23_87, r23_89, r23_89n, r23_90, r23_93, r23_96, r23_97, r23_97n, r23_98, r23_99, r23_100, r23_102, r23_102n, r23_103, r23_106, r23_108, r23_112, r23_114, r23_114n, r23_115, r23_118, r23_119, r23_120, r23_121, r23_121n, r23_122, r23_125, r23_126, r23_128, r23_129, r23_129n, r23_130, r23_135, r23_138, r23_139, r23_141, r23_144, r23_145, r23_147, r23_150, r23_151, r23_153, r23_156, r23_157, r23_159, r23_162, r23_163, r23_165, r23_168, r23_168n, r23_169, r23_169i, r23_170, r23_173, r23_174, r23_175, r23_178, r23_178n, r23_179, r23_182, r23_183, r23_184, r23_186, r23_189, r23_191, r23_194, r23_195, r23_197, r23_200, r23_201, r23_204, r23_205, r23_207, r23_210, r23_211, r23_214, r23_215, r23_216, r23_216n, r23_217, r23_218, r23_218n, r23_219, r23_222, r23_223, r23_224, r23_225, r23_229, r23_232, r23_233, r23_235, r23_238, r23_238n, r23_239, r23_242, r23_243, r23_244, r23_245, r23_248, r23_248n, r23_249, r23_250, r23_253, r23_256, r23_257, r23_259, r23_262, r23_262n, r23_263, r23_268, r23_271, r23_271n, r23_272, r23_272n, r23_273, r23_276, r23_277, r23_278, r23_279, r23_282, r23_283, r23_285, r23_288, r23_289, r23_291, r23_294, r23_295, r23_297, r23_300, r23_302, r23_305, r23_310, i32_10, reduceIte, gm_cmp1, gm_cmp3, gm_cmp4, gm_kd_sf, gm_ln_sf, gm_sf_1, gm_sf_2, gm_nw_1, gm_nw_2, gm_k_int, gm_k_ref, gm_k_null, gm_k_u, gm_k_long, and_true, true_and, true_or, or_true, or_false, false_or, and_self, or_self, if_true, if_false, List.map_nil, List.map_cons, List.sum_nil, List.sum_cons, Nat.zero_le, Option.toList_some, Option.toList_none, List.cons_append, List.nil_append, ne_eq, not_false_eq_true, not_true_eq_false, nI_1, nI_add, Value.category, Nat.reduceAdd, Nat.reduceMod, Nat.reduceLeDiff, Nat.reduceLT, Nat.reduceEqDiff, Nat.reducePow, Nat.le_refl, Nat.add_left_cancel_iff, Nat.add_eq_left, Nat.left_eq_add, Nat.add_zero, eq_self, x1, x2]
  refine c23_79 (by simp) g_k0 (by omega) (m_entry he h130) (gx_kn ?_) gx_kx
  obtain ⟨t2, ht2⟩ : ∃ t2, t2 = gr_ent t e 0 0 := ⟨_, rfl⟩
  rw [← ht2]
  have a8 : t2.1 0 8 = 0 := by rw [ht2]; unfold gr_ent; rw [gr_ui_ni (by decide), gr_ui_no (by decide), gr_ui_no (by decide)]; exact h8
  have a6 : t2.1 0 6 = nI (gs_pl s) := by rw [ht2]; unfold gr_ent; rw [gr_ui_ni (by decide), gr_ui_no (by decide), gr_ui_no (by decide)]; exact hp
  have a23 : t2.1 0 23 = nI o := by rw [ht2]; unfold gr_ent; rw [gr_ui_ni (by decide), gr_ui_no (by decide), gr_ui_no (by decide)]; exact ho
  have B2 : gr_B t2 K := by rw [ht2]; unfold gr_ent; exact ((B.ui (by decide) (Or.inl (by decide))).ui (by decide) (Or.inl (by decide))).ui (by decide) (Or.inr (by decide))
  simp only [r23_0, r23_0n, r23_1, r23_4, r23_5, r23_6, r23_8, r23_11, r23_11n, r23_12, r23_15, r23_17, r23_20, r23_20n, r23_21, r23_26, r23_27, r23_27n, r23_31, r23_32, r23_32n, r23_33, r23_36, r23_39, r23_40, r23_41, r23_43, r23_46, r23_46n, r23_47, r23_52, r23_55, r23_56, r23_58, r23_61, r23_61n, r23_62, r23_63, r23_67, r23_70, r23_71, r23_73, r23_76, r23_76n, r23_77, r23_78, r23_82, r23_83, r23_83n, r23_87, r23_89, r23_89n, r23_90, r23_93, r23_96, r23_97, r23_97n, r23_98, r23_99, r23_100, r23_102, r23_102n, r23_103, r23_106, r23_108, r23_112, r23_114, r23_114n, r23_115, r23_118, r23_119, r23_120, r23_121, r23_121n, r23_122, r23_125, r23_126, r23_128, r23_129, r23_129n, r23_130, r23_135, r23_138, r23_139, r23_141, r23_144, r23_145, r23_147, r23_150, r23_151, r23_153, r23_156, r23_157, r23_159, r23_162, r23_163, r23_165, r23_168, r23_168n, r23_169, r23_169i, r23_170, r23_173, r23_174, r23_175, r23_178, r23_178n, r23_179, r23_182, r23_183, r23_184, r23_186, r23_189, r23_191, r23_194, r23_195, r23_197, r23_200, r23_201, r23_204, r23_205, r23_207, r23_210, r23_211, r23_214, r23_215, r23_216, r23_216n, r23_217, r23_218, r23_218n, r23_219, r23_222, r23_223, r23_224, r23_225, r23_229, r23_232, r23_233, r23_235, r23_238, r23_238n, r23_239, r23_242, r23_243, r23_244, r23_245, r23_248, r23_248n, r23_249, r23_250, r23_253, r23_256, r23_257, r23_259, r23_262, r23_262n, r23_263, r23_268, r23_271, r23_271n, r23_272, r23_272n, r23_273, r23_276, r23_277, r23_278, r23_279, r23_282, r23_283, r23_285, r23_288, r23_289, r23_291, r23_294, r23_295, r23_297, r23_300, r23_302, r23_305, r23_310, i32_10, reduceIte, gm_cmp1, gm_cmp3, gm_cmp4, gm_kd_sf, gm_ln_sf, gm_sf_1, gm_sf_2, gm_nw_1, gm_nw_2, gm_k_int, gm_k_ref, gm_k_null, gm_k_u, gm_k_long, and_true, true_and, true_or, or_true, or_false, false_or, and_self, or_self, if_true, if_false, List.map_nil, List.map_cons, List.sum_nil, List.sum_cons, Nat.zero_le, Option.toList_some, Option.toList_none, List.cons_append, List.nil_append, ne_eq, not_false_eq_true, not_true_eq_false, nI_1, nI_add, Value.category, Nat.reduceAdd, Nat.reduceMod, Nat.reduceLeDiff, Nat.reduceLT, Nat.reduceEqDiff, Nat.reducePow, Nat.le_refl, Nat.add_left_cancel_iff, Nat.add_eq_left, Nat.left_eq_add, Nat.add_zero, g_k0, g_k1, g_l1, g_p4, g_a1, g_w1, g_k2, g_l2, g_p10, g_a2, g_w2, g_k3, g_l3, g_p11, g_a3, g_w3, g_k4, g_l4, g_p12, g_a4, g_w4, g_k5, g_l5, g_p13, g_a5, g_w5, g_k6, g_l6, g_p14, g_a6, g_w6, g_k7, g_l7, g_p15, g_a7, g_w7, g_k8, g_l8, g_p16, g_a8, g_w8, g_k9, g_l9, g_p17, g_a9, g_w9, g_k10, g_l10, g_p18, g_a10, g_w10, g_k11, g_l11, g_p19, g_a11, g_w11, g_k12, g_l12, g_p20, g_a12, g_w12, g_k13, g_l13, g_p21, g_a13, g_w13, g_k14, g_l14, g_p22, g_a14, g_w14, g_k15, g_l15, g_p24, g_a15, g_w15, g_k16, g_l16, g_p26, g_a16, g_w16, g_k17, g_l17, g_p27, g_a17, g_w17, g_k18, g_l18, g_p29, g_a18, g_w18, g_k19, g_l19, g_p30, g_a19, g_w19, g_k20, g_l20, g_p31, g_a20, g_w20, g_k21, g_l21, g_p32, g_a21, g_w21, g_k22, g_l22, g_p33, g_a22, g_w22, g_k23, g_l23, g_p34, g_a23, g_w23, g_k24, g_l24, g_p35, g_a24, g_w24, g_k25, g_l25, g_p36, g_a25, g_w25, g_k26, g_l26, g_p37, g_a26, g_w26, g_k27, g_l27, g_p38, g_a27, g_w27, g_k28, g_l28, g_p40, g_a28, g_w28, g_k29, g_l29, g_p41, g_a29, g_w29, g_k30, g_l30, g_p42, g_a30, g_w30, g_k31, g_l31, g_p43, g_a31, g_w31, g_k32, g_l32, g_p44, g_a32, g_w32, g_k33, g_l33, g_p45, g_a33, g_w33, g_k34, g_l34, g_p46, g_a34, g_w34, g_f0, g_s0, g_f1, g_s1, g_f2, g_s2, g_f3, g_s3, g_f5, g_s5, g_f6, g_s6, g_f7, g_s7, g_f8, g_s8, g_f9, g_s9, g_f23, g_s23, g_f25, g_s25, g_f28, g_s28, g_f39, g_s39, g_f47, g_s47, gr_ui_eq, gr_ui_2, gr_ul_eq, gr_ul_1, gr_ui_no, gr_ui_ni, gr_ul_no, gr_ul_ni]
  refine c23_84 (by simp) g_k0 (by omega) (m_utf (s := s) (by omega) B2 a6 hpn a8) (fun v9 h9 q => ?_) (fun x9 h9 q => ?_)
  rotate_left
  · unfold gr_q at q
    cases eu : gs_utf K s with
    | ok w => rw [eu] at q; cases q.1
    | error x => rw [eu] at q; obtain ⟨_, _, q1, -⟩ := q; cases q1
  unfold gr_q at q
  cases eu : gs_utf K s with
  | error x =>
    rw [eu] at q
    obtain ⟨w, t1, q1, rfl, q3⟩ := q
    cases q1
    have b8 : ¬ t1.1 0 8 = 0 := by
      obtain ⟨x0, pp, -, rfl⟩ := q3
      rw [gr_ui_eq]; exact x0
    simp only [r23_0, r23_0n, r23_1, r23_4, r23_5, r23_6, r23_8, r23_11, r23_11n, r23_12, r23_15, r23_17, r23_20, r23_20n, r23_21, r23_26, r23_27, r23_27n, r23_31, r23_32, r23_32n, r23_33, r23_36, r23_39, r23_40, r23_41, r23_43, r23_46, r23_46n, r23_47, r23_52, r23_55, r23_56, r23_58, r23_61, r23_61n, r23_62, r23_63, r23_67, r23_70, r23_71, r23_73, r23_76, r23_76n, r23_77, r23_78, r23_82, r23_83, r23_83n, r23_87, r23_89, r23_89n, r23_90, r23_93, r23_96, r23_97, r23_97n, r23_98, r23_99, r23_100, r23_102, r23_102n, r23_103, r23_106, r23_108, r23_112, r23_114, r23_114n, r23_115, r23_118, r23_119, r23_120, r23_121, r23_121n, r23_122, r23_125, r23_126, r23_128, r23_129, r23_129n, r23_130, r23_135, r23_138, r23_139, r23_141, r23_144, r23_145, r23_147, r23_150, r23_151, r23_153, r23_156, r23_157, r23_159, r23_162, r23_163, r23_165, r23_168, r23_168n, r23_169, r23_169i, r23_170, r23_173, r23_174, r23_175, r23_178, r23_178n, r23_179, r23_182, r23_183, r23_184, r23_186, r23_189, r23_191, r23_194, r23_195, r23_197, r23_200, r23_201, r23_204, r23_205, r23_207, r23_210, r23_211, r23_214, r23_215, r23_216, r23_216n, r23_217, r23_218, r23_218n, r23_219, r23_222, r23_223, r23_224, r23_225, r23_229, r23_232, r23_233, r23_235, r23_238, r23_238n, r23_239, r23_242, r23_243, r23_244, r23_245, r23_248, r23_248n, r23_249, r23_250, r23_253, r23_256, r23_257, r23_259, r23_262, r23_262n, r23_263, r23_268, r23_271, r23_271n, r23_272, r23_272n, r23_273, r23_276, r23_277, r23_278, r23_279, r23_282, r23_283, r23_285, r23_288, r23_289, r23_291, r23_294, r23_295, r23_297, r23_300, r23_302, r23_305, r23_310, i32_10, reduceIte, gm_cmp1, gm_cmp3, gm_cmp4, gm_kd_sf, gm_ln_sf, gm_sf_1, gm_sf_2, gm_nw_1, gm_nw_2, gm_k_int, gm_k_ref, gm_k_null, gm_k_u, gm_k_long, and_true, true_and, true_or, or_true, or_false, false_or, and_self, or_self, if_true, if_false, List.map_nil, List.map_cons, List.sum_nil, List.sum_cons, Nat.zero_le, Option.toList_some, Option.toList_none, List.cons_append, List.nil_append, ne_eq, not_false_eq_true, not_true_eq_false, nI_1, nI_add, Value.category, Nat.reduceAdd, Nat.reduceMod, Nat.reduceLeDiff, Nat.reduceLT, Nat.reduceEqDiff, Nat.reducePow, Nat.le_refl, Nat.add_left_cancel_iff, Nat.add_eq_left, Nat.left_eq_add, Nat.add_zero, g_k0, g_k1, g_l1, g_p4, g_a1, g_w1, g_k2, g_l2, g_p10, g_a2, g_w2, g_k3, g_l3, g_p11, g_a3, g_w3, g_k4, g_l4, g_p12, g_a4, g_w4, g_k5, g_l5, g_p13, g_a5, g_w5, g_k6, g_l6, g_p14, g_a6, g_w6, g_k7, g_l7, g_p15, g_a7, g_w7, g_k8, g_l8, g_p16, g_a8, g_w8, g_k9, g_l9, g_p17, g_a9, g_w9, g_k10, g_l10, g_p18, g_a10, g_w10, g_k11, g_l11, g_p19, g_a11, g_w11, g_k12, g_l12, g_p20, g_a12, g_w12, g_k13, g_l13, g_p21, g_a13, g_w13, g_k14, g_l14, g_p22, g_a14, g_w14, g_k15, g_l15, g_p24, g_a15, g_w15, g_k16, g_l16, g_p26, g_a16, g_w16, g_k17, g_l17, g_p27, g_a17, g_w17, g_k18, g_l18, g_p29, g_a18, g_w18, g_k19, g_l19, g_p30, g_a19, g_w19, g_k20, g_l20, g_p31, g_a20, g_w20, g_k21, g_l21, g_p32, g_a21, g_w21, g_k22, g_l22, g_p33, g_a22, g_w22, g_k23, g_l23, g_p34, g_a23, g_w23, g_k24, g_l24, g_p35, g_a24, g_w24, g_k25, g_l25, g_p36, g_a25, g_w25, g_k26, g_l26, g_p37, g_a26, g_w26, g_k27, g_l27, g_p38, g_a27, g_w27, g_k28, g_l28, g_p40, g_a28, g_w28, g_k29, g_l29, g_p41, g_a29, g_w29, g_k30, g_l30, g_p42, g_a30, g_w30, g_k31, g_l31, g_p43, g_a31, g_w31, g_k32, g_l32, g_p44, g_a32, g_w32, g_k33, g_l33, g_p45, g_a33, g_w33, g_k34, g_l34, g_p46, g_a34, g_w34, g_f0, g_s0, g_f1, g_s1, g_f2, g_s2, g_f3, g_s3, g_f5, g_s5, g_f6, g_s6, g_f7, g_s7, g_f8, g_s8, g_f9, g_s9, g_f23, g_s23, g_f25, g_s25, g_f28, g_s28, g_f39, g_s39, g_f47, g_s47, gr_ui_eq, gr_ui_2, gr_ul_eq, gr_ul_1, gr_ui_no, gr_ui_ni, gr_ul_no, gr_ul_ni, b8]
    rw [hQ]
    refine gr_ps.ok ?_
    rw [eu, ← ht2]
    exact q3
  | ok w =>
    rw [eu] at q
    obtain ⟨q1, rfl⟩ := q
    cases q1
    obtain ⟨u1, u2, u3, u4⟩ := gs_utf_ok (a := w.1) (s1 := w.2) eu hpn
    dsimp only
    obtain ⟨t3, ht3⟩ : ∃ t3, t3 = gr_ui t2 0 6 (nI (gs_pl w.2)) := ⟨_, rfl⟩
    rw [← ht3]
    have b8 : t3.1 0 8 = 0 := by rw [ht3, gr_ui_ni (by decide)]; exact a8
    have b6 : t3.1 0 6 = nI (gs_pl w.2) := by rw [ht3, gr_ui_eq]
    have b23 : t3.1 0 23 = nI o := by rw [ht3, gr_ui_ni (by decide)]; exact a23
    have ea : nI (gs_pl w.2) - nI (gs_pl w.2 - w.1) = nI w.1 := by rw [nI_sub (by omega)]; congr 1; omega
    simp only [r23_0, r23_0n, r23_1, r23_4, r23_5, r23_6, r23_8, r23_11, r23_11n, r23_12, r23_15, r23_17, r23_20, r23_20n, r23_21, r23_26, r23_27, r23_27n, r23_31, r23_32, r23_32n, r23_33, r23_36, r23_39, r23_40, r23_41, r23_43, r23_46, r23_46n, r23_47, r23_52, r23_55, r23_56, r23_58, r23_61, r23_61n, r23_62, r23_63, r23_67, r23_70, r23_71, r23_73, r23_76, r23_76n, r23_77, r23_78, r23_82, r23_83, r23_83n, r23_87, r23_89, r23_89n, r23_90, r23_93, r23_96, r23_97, r23_97n, r23_98, r23_99, r23_100, r23_102, r23_102n, r23_103, r23_106, r23_108, r23_112, r23_114, r23_114n, r23_115, r23_118, r23_119, r23_120, r23_121, r23_121n, r23_122, r23_125, r23_126, r23_128, r23_129, r23_129n, r23_130, r23_135, r23_138, r23_139, r23_141, r23_144, r23_145, r23_147, r23_150, r23_151, r23_153, r23_156, r23_157, r23_159, r23_162, r23_163, r23_165, r23_168, r23_168n, r23_169, r23_169i, r23_170, r23_173, r23_174, r23_175, r23_178, r23_178n, r23_179, r23_182, r23_183, r23_184, r23_186, r23_189, r23_191, r23_194, r23_195, r23_197, r23_200, r23_201, r23_204, r23_205, r23_207, r23_210, r23_211, r23_214, r23_215, r23_216, r23_216n, r23_217, r23_218, r23_218n, r23_219, r23_222, r23_223, r23_224, r23_225, r23_229, r23_232, r23_233, r23_235, r23_238, r23_238n, r23_239, r23_242, r23_243, r23_244, r23_245, r23_248, r23_248n, r23_249, r23_250, r23_253, r23_256, r23_257, r23_259, r23_262, r23_262n, r23_263, r23_268, r23_271, r23_271n, r23_272, r23_272n, r23_273, r23_276, r23_277, r23_278, r23_279, r23_282, r23_283, r23_285, r23_288, r23_289, r23_291, r23_294, r23_295, r23_297, r23_300, r23_302, r23_305, r23_310, i32_10, reduceIte, gm_cmp1, gm_cmp3, gm_cmp4, gm_kd_sf, gm_ln_sf, gm_sf_1, gm_sf_2, gm_nw_1, gm_nw_2, gm_k_int, gm_k_ref, gm_k_null, gm_k_u, gm_k_long, and_true, true_and, true_or, or_true, or_false, false_or, and_self, or_self, if_true, if_false, List.map_nil, List.map_cons, List.sum_nil, List.sum_cons, Nat.zero_le, Option.toList_some, Option.toList_none, List.cons_append, List.nil_append, ne_eq, not_false_eq_true, not_true_eq_false, nI_1, nI_add, Value.category, Nat.reduceAdd, Nat.reduceMod, Nat.reduceLeDiff, Nat.reduceLT, Nat.reduceEqDiff, Nat.reducePow, Nat.le_refl, Nat.add_left_cancel_iff, Nat.add_eq_left, Nat.left_eq_add, Nat.add_zero, g_k0, g_k1, g_l1, g_p4, g_a1, g_w1, g_k2, g_l2, g_p10, g_a2, g_w2, g_k3, g_l3, g_p11, g_a3, g_w3, g_k4, g_l4, g_p12, g_a4, g_w4, g_k5, g_l5, g_p13, g_a5, g_w5, g_k6, g_l6, g_p14, g_a6, g_w6, g_k7, g_l7, g_p15, g_a7, g_w7, g_k8, g_l8, g_p16, g_a8, g_w8, g_k9, g_l9, g_p17, g_a9, g_w9, g_k10, g_l10, g_p18, g_a10, g_w10, g_k11, g_l11, g_p19, g_a11, g_w11, g_k12, g_l12, g_p20, g_a12, g_w12, g_k13, g_l13, g_p21, g_a13, g_w13, g_k14, g_l14, g_p22, g_a14, g_w14, g_k15, g_l15, g_p24, g_a15, g_w15, g_k16, g_l16, g_p26, g_a16, g_w16, g_k17, g_l17, g_p27, g_a17, g_w17, g_k18, g_l18, g_p29, g_a18, g_w18, g_k19, g_l19, g_p30, g_a19, g_w19, g_k20, g_l20, g_p31, g_a20, g_w20, g_k21, g_l21, g_p32, g_a21, g_w21, g_k22, g_l22, g_p33, g_a22, g_w22, g_k23, g_l23, g_p34, g_a23, g_w23, g_k24, g_l24, g_p35, g_a24, g_w24, g_k25, g_l25, g_p36, g_a25, g_w25, g_k26, g_l26, g_p37, g_a26, g_w26, g_k27, g_l27, g_p38, g_a27, g_w27, g_k28, g_l28, g_p40, g_a28, g_w28, g_k29, g_l29, g_p41, g_a29, g_w29, g_k30, g_l30, g_p42, g_a30, g_w30, g_k31, g_l31, g_p43, g_a31, g_w31, g_k32, g_l32, g_p44, g_a32, g_w32, g_k33, g_l33, g_p45, g_a33, g_w33, g_k34, g_l34, g_p46, g_a34, g_w34, g_f0, g_s0, g_f1, g_s1, g_f2, g_s2, g_f3, g_s3, g_f5, g_s5, g_f6, g_s6, g_f7, g_s7, g_f8, g_s8, g_f9, g_s9, g_f23, g_s23, g_f25, g_s25, g_f28, g_s28, g_f39, g_s39, g_f47, g_s47, gr_ui_eq, gr_ui_2, gr_ul_eq, gr_ul_1, gr_ui_no, gr_ui_ni, gr_ul_no, gr_ul_ni, b8, b6, ea]
    refine c23_109 (by simp) g_k0 (by omega) (m_make b23 h720) (gx_kn ?_) gx_kx
    simp only [r23_0, r23_0n, r23_1, r23_4, r23_5, r23_6, r23_8, r23_11, r23_11n, r23_12, r23_15, r23_17, r23_20, r23_20n, r23_21, r23_26, r23_27, r23_27n, r23_31, r23_32, r23_32n, r23_33, r23_36, r23_39, r23_40, r23_41, r23_43, r23_46, r23_46n, r23_47, r23_52, r23_55, r23_56, r23_58, r23_61, r23_61n, r23_62, r23_63, r23_67, r23_70, r23_71, r23_73, r23_76, r23_76n, r23_77, r23_78, r23_82, r23_83, r23_83n, r23_87, r23_89, r23_89n, r23_90, r23_93, r23_96, r23_97, r23_97n, r23_98, r23_99, r23_100, r23_102, r23_102n, r23_103, r23_106, r23_108, r23_112, r23_114, r23_114n, r23_115, r23_118, r23_119, r23_120, r23_121, r23_121n, r23_122, r23_125, r23_126, r23_128, r23_129, r23_129n, r23_130, r23_135, r23_138, r23_139, r23_141, r23_144, r23_145, r23_147, r23_150, r23_151, r23_153, r23_156, r23_157, r23_159, r23_162, r23_163, r23_165, r23_168, r23_168n, r23_169, r23_169i, r23_170, r23_173, r23_174, r23_175, r23_178, r23_178n, r23_179, r23_182, r23_183, r23_184, r23_186, r23_189, r23_191, r23_194, r23_195, r23_197, r23_200, r23_201, r23_204, r23_205, r23_207, r23_210, r23_211, r23_214, r23_215, r23_216, r23_216n, r23_217, r23_218, r23_218n, r23_219, r23_222, r23_223, r23_224, r23_225, r23_229, r23_232, r23_233, r23_235, r23_238, r23_238n, r23_239, r23_242, r23_243, r23_244, r23_245, r23_248, r23_248n, r23_249, r23_250, r23_253, r23_256, r23_257, r23_259, r23_262, r23_262n, r23_263, r23_268, r23_271, r23_271n, r23_272, r23_272n, r23_273, r23_276, r23_277, r23_278, r23_279, r23_282, r23_283, r23_285, r23_288, r23_289, r23_291, r23_294, r23_295, r23_297, r23_300, r23_302, r23_305, r23_310, i32_10, reduceIte, gm_cmp1, gm_cmp3, gm_cmp4, gm_kd_sf, gm_ln_sf, gm_sf_1, gm_sf_2, gm_nw_1, gm_nw_2, gm_k_int, gm_k_ref, gm_k_null, gm_k_u, gm_k_long, and_true, true_and, true_or, or_true, or_false, false_or, and_self, or_self, if_true, if_false, List.map_nil, List.map_cons, List.sum_nil, List.sum_cons, Nat.zero_le, Option.toList_some, Option.toList_none, List.cons_append, List.nil_append, ne_eq, not_false_eq_true, not_true_eq_false, nI_1, nI_add, Value.category, Nat.reduceAdd, Nat.reduceMod, Nat.reduceLeDiff, Nat.reduceLT, Nat.reduceEqDiff, Nat.reducePow, Nat.le_refl, Nat.add_left_cancel_iff, Nat.add_eq_left, Nat.left_eq_add, Nat.add_zero, g_k0, g_k1, g_l1, g_p4, g_a1, g_w1, g_k2, g_l2, g_p10, g_a2, g_w2, g_k3, g_l3, g_p11, g_a3, g_w3, g_k4, g_l4, g_p12, g_a4, g_w4, g_k5, g_l5, g_p13, g_a5, g_w5, g_k6, g_l6, g_p14, g_a6, g_w6, g_k7, g_l7, g_p15, g_a7, g_w7, g_k8, g_l8, g_p16, g_a8, g_w8, g_k9, g_l9, g_p17, g_a9, g_w9, g_k10, g_l10, g_p18, g_a10, g_w10, g_k11, g_l11, g_p19, g_a11, g_w11, g_k12, g_l12, g_p20, g_a12, g_w12, g_k13, g_l13, g_p21, g_a13, g_w13, g_k14, g_l14, g_p22, g_a14, g_w14, g_k15, g_l15, g_p24, g_a15, g_w15, g_k16, g_l16, g_p26, g_a16, g_w16, g_k17, g_l17, g_p27, g_a17, g_w17, g_k18, g_l18, g_p29, g_a18, g_w18, g_k19, g_l19, g_p30, g_a19, g_w19, g_k20, g_l20, g_p31, g_a20, g_w20, g_k21, g_l21, g_p32, g_a21, g_w21, g_k22, g_l22, g_p33, g_a22, g_w22, g_k23, g_l23, g_p34, g_a23, g_w23, g_k24, g_l24, g_p35, g_a24, g_w24, g_k25, g_l25, g_p36, g_a25, g_w25, g_k26, g_l26, g_p37, g_a26, g_w26, g_k27, g_l27, g_p38, g_a27, g_w27, g_k28, g_l28, g_p40, g_a28, g_w28, g_k29, g_l29, g_p41, g_a29, g_w29, g_k30, g_l30, g_p42, g_a30, g_w30, g_k31, g_l31, g_p43, g_a31, g_w31, g_k32, g_l32, g_p44, g_a32, g_w32, g_k33, g_l33, g_p45, g_a33, g_w33, g_k34, g_l34, g_p46, g_a34, g_w34, g_f0, g_s0, g_f1, g_s1, g_f2, g_s2, g_f3, g_s3, g_f5, g_s5, g_f6, g_s6, g_f7, g_s7, g_f8, g_s8, g_f9, g_s9, g_f23, g_s23, g_f25, g_s25, g_f28, g_s28, g_f39, g_s39, g_f47, g_s47, gr_ui_eq, gr_ui_2, gr_ul_eq, gr_ul_1, gr_ui_no, gr_ui_ni, gr_ul_no, gr_ul_ni, h130]
    refine c23_132 (by simp) g_k0 (by omega) m_give (gx_kn ?_) gx_kx
    simp only [r23_0, r23_0n, r23_1, r23_4, r23_5, r23_6, r23_8, r23_11, r23_11n, r23_12, r23_15, r23_17, r23_20, r23_20n, r23_21, r23_26, r23_27, r23_27n, r23_31, r23_32, r23_32n, r23_33, r23_36, r23_39, r23_40, r23_41, r23_43, r23_46, r23_46n, r23_47, r23_52, r23_55, r23_56, r23_58, r23_61, r23_61n, r23_62, r23_63, r23_67, r23_70, r23_71, r23_73, r23_76, r23_76n, r23_77, r23_78, r23_82, r23_83, r23_83n, r23_87, r23_89, r23_89n, r23_90, r23_93, r23_96, r23_97, r23_97n, r23_98, r23_99, r23_100, r23_102, r23_102n, r23_103, r23_106, r23_108, r23_112, r23_114, r23_114n, r23_115, r23_118, r23_119, r23_120, r23_121, r23_121n, r23_122, r23_125, r23_126, r23_128, r23_129, r23_129n, r23_130, r23_135, r23_138, r23_139, r23_141, r23_144, r23_145, r23_147, r23_150, r23_151, r23_153, r23_156, r23_157, r23_159, r23_162, r23_163, r23_165, r23_168, r23_168n, r23_169, r23_169i, r23_170, r23_173, r23_174, r23_175, r23_178, r23_178n, r23_179, r23_182, r23_183, r23_184, r23_186, r23_189, r23_191, r23_194, r23_195, r23_197, r23_200, r23_201, r23_204, r23_205, r23_207, r23_210, r23_211, r23_214, r23_215, r23_216, r23_216n, r23_217, r23_218, r23_218n, r23_219, r23_222, r23_223, r23_224, r23_225, r23_229, r23_232, r23_233, r23_235, r23_238, r23_238n, r23_239, r23_242, r23_243, r23_244, r23_245, r23_248, r23_248n, r23_249, r23_250, r23_253, r23_256, r23_257, r23_259, r23_262, r23_262n, r23_263, r23_268, r23_271, r23_271n, r23_272, r23_272n, r23_273, r23_276, r23_277, r23_278, r23_279, r23_282, r23_283, r23_285, r23_288, r23_289, r23_291, r23_294, r23_295, r23_297, r23_300, r23_302, r23_305, r23_310, i32_10, reduceIte, gm_cmp1, gm_cmp3, gm_cmp4, gm_kd_sf, gm_ln_sf, gm_sf_1, gm_sf_2, gm_nw_1, gm_nw_2, gm_k_int, gm_k_ref, gm_k_null, gm_k_u, gm_k_long, and_true, true_and, true_or, or_true, or_false, false_or, and_self, or_self, if_true, if_false, List.map_nil, List.map_cons, List.sum_nil, List.sum_cons, Nat.zero_le, Option.toList_some, Option.toList_none, List.cons_append, List.nil_append, ne_eq, not_false_eq_true, not_true_eq_false, nI_1, nI_add, Value.category, Nat.reduceAdd, Nat.reduceMod, Nat.reduceLeDiff, Nat.reduceLT, Nat.reduceEqDiff, Nat.reducePow, Nat.le_refl, Nat.add_left_cancel_iff, Nat.add_eq_left, Nat.left_eq_add, Nat.add_zero]
    rw [hQ]
    refine gr_ps.ok ?_
    rw [eu]
    show _ = gr_txt t e o (gs_pl w.2) w.1 (gs_pl w.2 - w.1)
    unfold gr_txt
    rw [ht3, ht2]
theorem gs_mod_app {α : Type} {x : α} {g : α → α} : ∀ (l : List α), (l ++ [x]).modify l.length g = l ++ [g x]
  | [] => rfl
  | a :: l => by
    show (a :: (l ++ [x])).modify (l.length + 1) g = a :: (l ++ [g x])
    rw [List.modify_succ_cons, gs_mod_app l]
theorem gs_sgn_any : ∀ (k : Nat) {s s1 : gs_S} {u : Unit} (r : List gs_O × List (Int32 × List gs_L) × Nat), gs_sgn K k s = .ok (u, s1) → gs_sgn K k (gs_pl s, r) = .ok (u, (gs_pl s1, r))
  | 0, s, s1, u, r, e => by
    cases e
    rfl
  | k + 1, s, s1, u, r, e => by
    unfold gs_sgn at e ⊢
    by_cases c1 : gs_n K ≤ gs_pl s
    · rw [if_pos c1] at e; cases e
    · rw [if_neg c1] at e
      show (if gs_n K ≤ gs_pl s then _ else if gs_sb K (gs_pl s) ≤ 0 then _ else _) = _
      rw [if_neg c1]
      by_cases c2 : gs_sb K (gs_pl s) ≤ 0
      · rw [if_pos c2] at e; cases e
      · rw [if_neg c2] at e ⊢
        exact gs_sgn_any k r e
theorem gs_utf_any {a : Nat} {s1 : gs_S} {r : List gs_O × List (Int32 × List gs_L) × Nat} (e : gs_utf K s = .ok (a, s1)) : gs_utf K (gs_pl s, r) = .ok (a, (gs_pl s1, r)) := by
  unfold gs_utf at e ⊢
  cases q1 : gs_nxt K 2 s with
  | error f => rw [gs_b_er q1] at e; cases e
  | ok v =>
    rw [gs_b_ok (a := v.1) (s1 := v.2) q1, gs_b_ok (m := gs_g) (a := v.2) (s1 := v.2) rfl] at e
    cases q2 : gs_sgn K v.1.toInt32.toNatClampNeg v.2 with
    | error f => rw [gs_b_er q2] at e; cases e
    | ok u =>
      rw [gs_b_ok (a := u.1) (s1 := u.2) q2] at e
      cases e
      have g1 := gs_nxt_eq (v := v.1) (s1 := v.2) q1
      have g2 : gs_nxt K 2 (gs_pl s, r) = .ok (v.1, (gs_pl v.2, r)) := by
        unfold gs_nxt at q1 ⊢
        show (if gs_n K - gs_pl s < 2 then _ else _) = _
        split at q1
        · cases q1
        · rename_i y
          rw [if_neg y, g1.1]
          have : gs_pl v.2 = gs_pl s + 2 := by rw [g1.2]; rfl
          rw [this]
          rfl
      rw [gs_b_ok g2, gs_b_ok (m := gs_g) rfl]
      have g3 := gs_sgn_any _ (u := u.1) (s1 := u.2) r q2
      rw [gs_b_ok g3]
      rfl
theorem gs_sgn_anyE : ∀ (k : Nat) {s : gs_S} {e : Int32} (r : List gs_O × List (Int32 × List gs_L) × Nat), gs_sgn K k s = .error e → gs_sgn K k (gs_pl s, r) = .error e
  | 0, s, e, r, h => by cases h
  | k + 1, s, e, r, h => by
    unfold gs_sgn at h ⊢
    show (if gs_n K ≤ gs_pl s then _ else if gs_sb K (gs_pl s) ≤ 0 then _ else _) = _
    by_cases c1 : gs_n K ≤ gs_pl s
    · rw [if_pos c1] at h ⊢; exact h
    · rw [if_neg c1] at h ⊢
      by_cases c2 : gs_sb K (gs_pl s) ≤ 0
      · rw [if_pos c2] at h ⊢; exact h
      · rw [if_neg c2] at h ⊢
        exact gs_sgn_anyE k r h
theorem gs_utf_anyE {e : Int32} {r : List gs_O × List (Int32 × List gs_L) × Nat} (h : gs_utf K s = .error e) : gs_utf K (gs_pl s, r) = .error e := by
  unfold gs_utf at h ⊢
  cases q1 : gs_nxt K 2 s with
  | error f =>
    rw [gs_b_er q1] at h
    cases h
    refine gs_b_er ?_
    unfold gs_nxt at q1 ⊢
    show (if gs_n K - gs_pl s < 2 then _ else _) = _
    split at q1
    · rename_i y; rw [if_pos y]; exact q1
    · cases q1
  | ok v =>
    rw [gs_b_ok (a := v.1) (s1 := v.2) q1, gs_b_ok (m := gs_g) (a := v.2) (s1 := v.2) rfl] at h
    have g1 := gs_nxt_eq (v := v.1) (s1 := v.2) q1
    have g2 : gs_nxt K 2 (gs_pl s, r) = .ok (v.1, (gs_pl v.2, r)) := by
      unfold gs_nxt at q1 ⊢
      show (if gs_n K - gs_pl s < 2 then _ else _) = _
      split at q1
      · cases q1
      · rename_i y
        rw [if_neg y, g1.1]
        have : gs_pl v.2 = gs_pl s + 2 := by rw [g1.2]; rfl
        rw [this]
        rfl
    rw [gs_b_ok g2, gs_b_ok (m := gs_g) rfl]
    cases q2 : gs_sgn K v.1.toInt32.toNatClampNeg v.2 with
    | error f =>
      rw [gs_b_er q2] at h
      cases h
      exact gs_b_er (gs_sgn_anyE _ r q2)
    | ok u => rw [gs_b_ok (a := u.1) (s1 := u.2) q2] at h; cases h
/-- a text: seen from the relation -/
theorem gr_Y.txt {s1 : gs_S} {a : Nat} (Y : gr_Y X c us nd t K s) (hsz : gs_size s < 130) (h8 : t.1 0 8 = 0) (h47 : t.1 0 47 = nI (f + 1)) (eu : gs_utf K (gs_p (gs_pl s + 1) s) = .ok (a, s1)) (hpn : gs_pl s < gs_n K) : gr_O K X c us nd f f t s (fun v s' _ t' => t'.1 0 9 = v ∧ (∃ x, x < (gs_hp s').length ∧ v = nI x) ∧ gs_size s' = gs_size s + 1 ∧ gs_pl s < gs_pl s') (gs_text K (gs_p (gs_pl s + 1) s)) (gr_txt (gr_ui t 0 6 (nI (gs_pl s + 1))) (gs_size s) (gs_hp s).length (gs_pl s1) a (gs_pl s1 - a)) := by
  obtain ⟨u1, u2, u3, u4⟩ := gs_utf_ok eu (by show gs_pl s + 1 ≤ _; omega)
  have up := gs_utf_pos eu (by show gs_pl s + 1 ≤ _; omega)
  have u1 : a = gs_pl s + 1 + 2 := u1
  have n7 := Y.n7
  have hb := Y.hb
  have eb := Y.eb
  have ub := Y.ub
  have nb := Y.nb
  obtain ⟨o, ho⟩ : ∃ o, o = (gs_hp s).length := ⟨_, rfl⟩
  obtain ⟨e, he⟩ : ∃ e, e = gs_size s := ⟨_, rfl⟩
  rw [← ho, ← he]
  -- plainly
  obtain ⟨ob, hob⟩ : ∃ ob : gs_O, ob = (1, none, (List.range (gs_pl s1 - a)).map (fun k => (gs_sb K (a + k)).toInt64), 0, 0) := ⟨_, rfl⟩
  have S1 : gs_text K (gs_p (gs_pl s + 1) s) = .ok (nI o, (gs_pl s1, gs_hp s ++ [ob], gs_hs s ++ [(nI o, [])], gs_f1 s)) := by
    unfold gs_text
    have ea : gs_addE (-1) (gs_p (gs_pl s + 1) s) = .ok ((gs_hs s).length, (gs_pl s + 1, gs_hp s, gs_hs s ++ [(-1, [])], gs_f1 s)) := by
      unfold gs_addE
      rw [show gs_hs (gs_p (gs_pl s + 1) s) = gs_hs s from rfl, if_neg (by omega)]
      rfl
    have eu' : gs_utf K (gs_pl s + 1, gs_hp s, gs_hs s ++ [(-1, [])], gs_f1 s) = .ok (a, (gs_pl s1, gs_hp s, gs_hs s ++ [(-1, [])], gs_f1 s)) := gs_utf_any eu
    rw [gs_b_ok ea, gs_b_ok eu', gs_b_ok (m := gs_g) rfl]
    have et : gs_addT ob (gs_pl s1, gs_hp s, gs_hs s ++ [(-1, [])], gs_f1 s) = .ok (o, (gs_pl s1, gs_hp s ++ [ob], gs_hs s ++ [(-1, [])], gs_f1 s)) := by
      unfold gs_addT
      show (if 234 ≤ (gs_hp s).length then _ else _) = _
      rw [if_neg (by omega), ho]
      rfl
    show gs_b (gs_addT (1, none, (List.range (gs_pl s1 - a)).map (fun k => (gs_sb K (a + k)).toInt64), 0, 0)) _ _ = _
    rw [← hob, gs_b_ok et]
    show Except.ok (nI o, (gs_pl s1, gs_hp s ++ [ob], (gs_hs s ++ [(-1, [])]).modify (gs_hs s).length (fun q => (nI o, q.2)), gs_f1 s)) = _
    have : (gs_hs s ++ [((-1 : Int32), ([] : List gs_L))]).modify (gs_hs s).length (fun q => (nI o, q.2)) = gs_hs s ++ [(nI o, [])] := by
      exact gs_mod_app _
    rw [this]
  -- the machine's cells
  obtain ⟨t1, ht1⟩ : ∃ t1, t1 = gr_ui (gr_ui (gr_make (gr_ui (gr_ent (gr_ui t 0 6 (nI (gs_pl s + 1))) e 0 0) 0 6 (nI (gs_pl s1))) o 1 (-1) (nI (gs_pl s1 - a)) (nI a)) 16 e 2) 17 e (nI o) := ⟨_, rfl⟩
  show gr_O K X c us nd f f t s _ _ (gr_give (gr_ui (gr_ui (gr_make (gr_ui (gr_ent (gr_ui t 0 6 (nI (gs_pl s + 1))) e 0 0) 0 6 (nI (gs_pl s1))) o 1 (-1) (nI (gs_pl s1 - a)) (nI a)) 16 e 2) 17 e (nI o)) (nI o))
  rw [← ht1]
  have v : ∀ q i, (q = 0 → i ≠ 6 ∧ i ≠ 28 ∧ i ≠ 23) → ((q = 16 ∨ q = 17) → i ≠ e) → ((10 ≤ q ∧ q ≤ 14) → i ≠ o) → t1.1 q i = t.1 q i := fun q i z0 z1 z2 => by
    have u : ∀ (t : gr_t) (o2 i2 : Nat) (x : Int32), (q = o2 → i ≠ i2) → (gr_ui t o2 i2 x).1 q i = t.1 q i := fun t o2 i2 x z => by
      show (if q = o2 ∧ i = i2 then x else t.1 q i) = t.1 q i
      rw [if_neg (fun y => z y.1 y.2)]
    rw [ht1]
    unfold gr_make gr_ent
    rw [u _ _ _ _ (fun y => z1 (Or.inr y)), u _ _ _ _ (fun y => z1 (Or.inl y)), u _ _ _ _ (fun y => (z0 y).2.2), u _ _ _ _ (fun y => z2 (by omega)), u _ _ _ _ (fun y => z2 (by omega)), u _ _ _ _ (fun y => z2 (by omega)), u _ _ _ _ (fun y => z2 (by omega)), u _ _ _ _ (fun y => z2 (by omega)), u _ _ _ _ (fun y => (z0 y).1), u _ _ _ _ (fun y => (z0 y).2.1), u _ _ _ _ (fun y => z1 (Or.inr y)), u _ _ _ _ (fun y => z1 (Or.inl y)), u _ _ _ _ (fun y => (z0 y).1)]
  have v2 : t1.2 = t.2 := by rw [ht1]; rfl
  have k0 : t1.1 0 6 = nI (gs_pl s1) ∧ t1.1 0 28 = nI (e + 1) ∧ t1.1 0 23 = nI (o + 1) ∧ t1.1 16 e = 2 ∧ t1.1 17 e = nI o ∧ t1.1 10 o = 1 ∧ t1.1 11 o = -1 ∧ t1.1 12 o = nI (gs_pl s1 - a) ∧ t1.1 13 o = nI a ∧ t1.1 14 o = 0 := by
    rw [ht1]
    unfold gr_make gr_ent
    simp [gr_ui]
  obtain ⟨k6, k28, k23, k16, k17, k10, k11, k12, k13, k14⟩ := k0
  have kp : gr_kp (gs_hp s).length us nd t t1 := by
    refine ⟨fun q i hq => v q i ?_ ?_ ?_, fun q i hq => by rw [v2]⟩
    · intro y; unfold gr_pr at hq; omega
    · intro y; unfold gr_pr at hq; omega
    · intro y; unfold gr_pr at hq; omega
  have Y1 : gr_Y X c us nd t1 K (gs_pl s1, gs_hp s ++ [ob], gs_hs s ++ [(nI o, [])], gs_f1 s) := by
    refine Y.grow (X' := X) (ho := [ob]) (he := [(nI o, [])]) kp k6 (by omega) u3 (by rw [k23, ho]; rfl) (by rw [v 0 25 (by decide) (by omega) (by omega)]; exact Y.u) (by rw [k28, he]; rfl) (by rw [v 0 39 (by decide) (by omega) (by omega)]; exact Y.n) (Nat.le_refl _) (Nat.le_refl _) (by show gs_size s + 1 ≤ 130; omega) (fun i hi => ⟨v 16 i (by omega) (by omega) (by omega), v 17 i (by omega) (by omega) (by omega)⟩) ?_ ?_ Y.xb (fun _ _ z => z) (by simp) ?_ ?_ ?_ (by omega) (by omega) (by show 3 * ((gs_hp s).length + 1) + c ≤ gs_pl s1; omega) (by show 3 * ((gs_hs s).length + 1) + c ≤ gs_pl s1; omega)
    · intro j w hw
      have : j = 0 ∧ w = ob := by
        cases j with
        | zero => exact ⟨rfl, by simpa using hw.symm⟩
        | succ j => simp at hw
      obtain ⟨rfl, rfl⟩ := this
      rw [Nat.add_zero, ← ho, hob]
      have lenv : ((List.range (gs_pl s1 - a)).map (fun k => (gs_sb K (a + k)).toInt64)).length = gs_pl s1 - a := by simp
      refine ⟨k10, ⟨show (0 : Int32) ≤ 1 by decide, show (1 : Int32) ≤ 4 by decide⟩, k11, (fun c9 z => (by cases z)), k14, ?_, ?_, (fun z => absurd (show (1 : Int32) = 4 from z) (by decide)), ?_⟩
      · rw [if_neg (show ¬ (1 : Int32) = 4 by decide), k12]; show _ = nI ((List.range (gs_pl s1 - a)).map (fun k => (gs_sb K (a + k)).toInt64)).length; rw [lenv]
      · show ((List.range (gs_pl s1 - a)).map (fun k => (gs_sb K (a + k)).toInt64)).length ≤ 4000; rw [lenv]; omega
      · unfold gr_ov
        rw [if_pos rfl]
        refine ⟨a, k13, by show a + ((List.range (gs_pl s1 - a)).map (fun k => (gs_sb K (a + k)).toInt64)).length ≤ _; rw [lenv]; omega, fun j x hx => ?_⟩
        have hx : ((List.range (gs_pl s1 - a)).map (fun k => (gs_sb K (a + k)).toInt64))[j]? = some x := hx
        have lj := (List.getElem?_eq_some_iff.mp hx).1
        rw [lenv] at lj
        rw [List.getElem?_map, List.getElem?_range lj] at hx
        have hx := Option.some.inj hx
        rw [← hx, up (a + j) (by omega) (by omega)]
    · intro j w hw
      have : j = 0 ∧ w = (nI o, []) := by
        cases j with
        | zero => exact ⟨rfl, by simpa using hw.symm⟩
        | succ j => simp at hw
      obtain ⟨rfl, rfl⟩ := this
      rw [Nat.add_zero, ← he]
      exact Or.inr (Or.inr (Or.inl ⟨k16, rfl, nI_pos (by omega), k17⟩))
    · intro w hw sw
      have : w = ob := by simpa using hw.symm
      rw [this, hob] at sw
      have sw : (1 : Int32) = 0 ∨ (1 : Int32) = 3 := sw
      exact absurd sw (by decide)
    · intro j w hw hn
      have : w = (nI o, []) := by
        cases j with
        | zero => simpa using hw.symm
        | succ j => simp at hw
      exact ⟨o, by show o < (gs_hp s).length + 1; omega, by rw [this]⟩
    · intro j w hw
      cases j with
      | zero => simp at hw; rw [← hw]
      | succ j => simp at hw
  have a8 : t1.1 0 8 = 0 := by rw [v 0 8 (by decide) (by omega) (by omega)]; exact h8
  have a47 : t1.1 0 47 = nI (f + 1) := by rw [v 0 47 (by decide) (by omega) (by omega)]; exact h47
  refine gr_O.give S1 ⟨Nat.le_refl _, Nat.le_refl _⟩ Y1 a8 a47 (fun q i q1 q2 q3 => v q i (by omega) (by omega) (by omega)) (fun i hi => v 17 i (by omega) (by omega) (by omega)) kp ⟨List.prefix_append _ _, List.prefix_append _ _, rfl, by show gs_pl s ≤ gs_pl s1; omega⟩ ⟨(gr_give8 a8 a47).2, ⟨o, by show o < (gs_hp s ++ [ob]).length; rw [List.length_append]; show o < (gs_hp s).length + 1; omega, rfl⟩, ?_, by show gs_pl s < gs_pl s1; omega⟩
  have := Y.hh.2.2.1
  show (gs_hs s ++ [(nI o, [])]).length - gs_f1 s = e + 1
  rw [List.length_append, he]
  show (gs_hs s).length + 1 - gs_f1 s = gs_size s + 1
  unfold gs_size
  omega
end NG
