/-! THE REFERENCE, 61: read. -/
section NY
variable {E : Nat → Value} {d m n us nd : Nat} {h : gm_H} {t t' t0 t1 : gr_t} {K : gs_K} {s : gs_S} {lf : Int32} {Q : gm_R → gm_H → Prop}
theorem M_read1 (hK : gs_kor K) (hd : 20 ≤ d) (X : gr_X t K s 0) : gm_Ca E d 46 [.ref m] (gr_H h m t) (fun r h' => r = .inl (some (.int (gs_read K s 0).1)) ∧ ∃ t', h' = gr_H h m t' ∧ gr_X t' K (gs_read K s 0).2.1 (gs_read K s 0).2.2) := by
  obtain ⟨us, nd, Y⟩ := X.Y
  have l7 := X.2.2.2.2.2.1
  have n7 := Y.n7
  have pn := Y.pn
  have s130 := Y.hh.2.1
  obtain ⟨Q, hQ⟩ : ∃ Q : gm_R → gm_H → Prop, Q = (fun r h' => r = .inl (some (.int (gs_read K s 0).1)) ∧ ∃ t', h' = gr_H h m t' ∧ gr_X t' K (gs_read K s 0).2.1 (gs_read K s 0).2.2) := ⟨_, rfl⟩
  rw [← hQ]
  obtain ⟨n, hn⟩ : ∃ n, n = gs_size s := ⟨_, rfl⟩
  have h28 : t.1 0 28 = nI n := by rw [hn]; exact Y.hh.1
  -- behind the loop
  have fin : ∀ tb, (∀ q i, (q = 0 → i ≠ 8 ∧ i ≠ 47) → q ≠ 18 → q ≠ 19 → q < 28 → tb.1 q i = t.1 q i) → tb.2 = t.2 → (∀ i, i < n → tb.1 18 i = t.1 16 i ∧ tb.1 19 i = t.1 17 i) → gr_Y (fun _ => False) 0 us nd tb K s → ∀ w6 : Value, ∀ t', gr_E tb s us nd (gs_out K s) (gr_Z0 K tb s us nd) t' → gm_W E d 46 103 [.ref m, .int (nI (gs_pl s)), .int (nI (gs_hp s).length), .int (nI us), .int (nI n), .int (nI nd), w6] [] (gr_H h m t') Q := by
    intro tb vb vb2 vcp Yb w6 t' x
    unfold gr_E at x
    cases eo : gs_out K s with
    | ok w =>
      rw [eo] at x
      obtain ⟨⟨us', nd', Y'⟩, ⟨g8, g47⟩, g9, kp⟩ := x
      have er : gs_read K s 0 = (w.1, w.2, 0) := by unfold gs_read; rw [if_neg (by simp), eo]
      have c1 : nI 0 ≤ 0 := by decide
      rw [r46_103]
      simp only [r46_0, r46_0n, r46_1, r46_4, r46_7, r46_7n, r46_8, r46_11, r46_12, r46_12n, r46_13, r46_16, r46_17, r46_17n, r46_18, r46_21, r46_22, r46_22n, r46_23, r46_26, r46_27, r46_27n, r46_28, r46_31, r46_33, r46_33n, r46_34, r46_37, r46_39, r46_40, r46_42, r46_44, r46_44n, r46_45, r46_48, r46_51, r46_51n, r46_52, r46_55, r46_57, r46_57n, r46_58, r46_61, r46_63, r46_64, r46_65, r46_65n, r46_66, r46_69, r46_71, r46_71n, r46_72, r46_75, r46_77, r46_78, r46_79, r46_82, r46_85, r46_85n, r46_86, r46_87, r46_90, r46_90n, r46_91, r46_92, r46_95, r46_95n, r46_96, r46_97, r46_98, r46_99, r46_104, r46_107, r46_110, r46_110n, r46_111, r46_114, r46_117, r46_117n, r46_121, r46_124, r46_124n, r46_125, r46_128, r46_131, r46_131n, r46_132, r46_135, r46_136, r46_136n, r46_137, r46_138, r46_141, r46_141n, r46_142, r46_143, r46_146, r46_146n, r46_147, r46_148, r46_151, r46_151n, r46_152, r46_154, r46_157, r46_157n, r46_158, r46_160, r46_163, r46_164, r46_166, r46_168, r46_168n, r46_169, r46_172, r46_175, r46_175n, r46_176, r46_179, r46_181, r46_181n, r46_182, r46_185, r46_187, r46_188, r46_189, r46_189n, r46_190, r46_193, r46_195, r46_195n, r46_196, r46_199, r46_201, r46_202, r46_203, r46_206, r46_209, r46_209n, r46_210, r46_213, r46_215, r46_218, r46_218n, r46_219, r46_219n, r46_220, r46_223, r46_226, r46_226n, r46_227, r46_230, i32_10, reduceIte, gm_cmp1, gm_cmp3, gm_cmp4, gm_kd_sf, gm_ln_sf, gm_sf_1, gm_sf_2, gm_nw_1, gm_nw_2, gm_k_int, gm_k_ref, gm_k_null, gm_k_u, gm_k_long, and_true, true_and, true_or, or_true, or_false, false_or, and_self, or_self, if_true, if_false, List.map_nil, List.map_cons, List.sum_nil, List.sum_cons, Nat.zero_le, Option.toList_some, Option.toList_none, List.cons_append, List.nil_append, ne_eq, not_false_eq_true, not_true_eq_false, nI_1, nI_add, Value.category, Nat.reduceAdd, Nat.reduceMod, Nat.reduceLeDiff, Nat.reduceLT, Nat.reduceEqDiff, Nat.reducePow, Nat.le_refl, Nat.add_left_cancel_iff, Nat.add_eq_left, Nat.left_eq_add, Nat.add_zero, g_k0, g_k1, g_l1, g_p4, g_a1, g_w1, g_k2, g_l2, g_p10, g_a2, g_w2, g_k3, g_l3, g_p11, g_a3, g_w3, g_k4, g_l4, g_p12, g_a4, g_w4, g_k5, g_l5, g_p13, g_a5, g_w5, g_k6, g_l6, g_p14, g_a6, g_w6, g_k7, g_l7, g_p15, g_a7, g_w7, g_k8, g_l8, g_p16, g_a8, g_w8, g_k9, g_l9, g_p17, g_a9, g_w9, g_k10, g_l10, g_p18, g_a10, g_w10, g_k11, g_l11, g_p19, g_a11, g_w11, g_k12, g_l12, g_p20, g_a12, g_w12, g_k13, g_l13, g_p21, g_a13, g_w13, g_k14, g_l14, g_p22, g_a14, g_w14, g_k15, g_l15, g_p24, g_a15, g_w15, g_k16, g_l16, g_p26, g_a16, g_w16, g_k17, g_l17, g_p27, g_a17, g_w17, g_k18, g_l18, g_p29, g_a18, g_w18, g_k19, g_l19, g_p30, g_a19, g_w19, g_k20, g_l20, g_p31, g_a20, g_w20, g_k21, g_l21, g_p32, g_a21, g_w21, g_k22, g_l22, g_p33, g_a22, g_w22, g_k23, g_l23, g_p34, g_a23, g_w23, g_k24, g_l24, g_p35, g_a24, g_w24, g_k25, g_l25, g_p36, g_a25, g_w25, g_k26, g_l26, g_p37, g_a26, g_w26, g_k27, g_l27, g_p38, g_a27, g_w27, g_k28, g_l28, g_p40, g_a28, g_w28, g_k29, g_l29, g_p41, g_a29, g_w29, g_k30, g_l30, g_p42, g_a30, g_w30, g_k31, g_l31, g_p43, g_a31, g_w31, g_k32, g_l32, g_p44, g_a32, g_w32, g_k33, g_l33, g_p45, g_a33, g_w33, g_k34, g_l34, g_p46, g_a34, g_w34, g_f0, g_s0, g_f1, g_s1, g_f2, g_s2, g_f3, g_s3, g_f5, g_s5, g_f6, g_s6, g_f7, g_s7, g_f8, g_s8, g_f9, g_s9, g_f23, g_s23, g_f25, g_s25, g_f28, g_s28, g_f39, g_s39, g_f47, g_s47, gr_ui_eq, gr_ui_2, gr_ul_eq, gr_ul_1, gr_ui_no, gr_ui_ni, gr_ul_no, gr_ul_ni, g47, c1, g8, g9]
      rw [hQ]
      dsimp only
      rw [er]
      refine ⟨rfl, t', rfl, Y'.toX ?_⟩
      rw [kp.1 0 7 (by unfold gr_pr; omega), vb 0 7 (by decide) (by decide) (by decide) (by decide)]
      exact l7
    | error f =>
      rw [eo] at x
      obtain ⟨e8, f0, kp⟩ := x
      have er : gs_read K s 0 = (f, s, if f = -7 then 0 else f) := by unfold gs_read; rw [if_neg (by simp), eo]
      have e8' : ¬ t'.1 0 8 = 0 := by rw [e8]; exact f0
      -- put back
      have back : gm_W E d 46 124 [.ref m, .int (nI (gs_pl s)), .int (nI (gs_hp s).length), .int (nI us), .int (nI n), .int (nI nd), w6] [] (gr_H h m t') Q := by
        obtain ⟨ta, hta⟩ : ∃ ta, ta = gr_ui (gr_ui (gr_ui (gr_ui (gr_ui t' 0 6 (nI (gs_pl s))) 0 23 (nI (gs_hp s).length)) 0 25 (nI us)) 0 28 (nI n)) 0 39 (nI nd) := ⟨_, rfl⟩
        have va : ∀ q i, (q = 0 → i ≠ 6 ∧ i ≠ 23 ∧ i ≠ 25 ∧ i ≠ 28 ∧ i ≠ 39) → ta.1 q i = t'.1 q i := fun q i z => by
          rw [hta]
          by_cases e0 : q = 0
          · obtain ⟨z1, z2, z3, z4, z5⟩ := z e0
            rw [gr_ui_ni z5, gr_ui_ni z4, gr_ui_ni z3, gr_ui_ni z2, gr_ui_ni z1]
          · rw [gr_ui_no e0, gr_ui_no e0, gr_ui_no e0, gr_ui_no e0, gr_ui_no e0]
        have ka : ta.1 0 6 = nI (gs_pl s) ∧ ta.1 0 23 = nI (gs_hp s).length ∧ ta.1 0 25 = nI us ∧ ta.1 0 28 = nI n ∧ ta.1 0 39 = nI nd := by
          rw [hta]
          simp [gr_ui]
        obtain ⟨k6, k23, k25, k28, k39⟩ := ka
        have a8 : ta.1 0 8 = f := by rw [va 0 8 (by decide)]; exact e8
        have kpa : gr_kp (gs_hp s).length us nd tb ta := by
          rw [hta]
          exact ((((kp.ui (by unfold gr_pr; omega)).ui (by unfold gr_pr; omega)).ui (by unfold gr_pr; omega)).ui (by unfold gr_pr; omega)).ui (by unfold gr_pr; omega)
        -- the end
        have last : ∀ w6 : Value, gm_W E d 46 209 [.ref m, .int (nI (gs_pl s)), .int (nI (gs_hp s).length), .int (nI us), .int (nI n), .int (nI nd), w6] [] (gr_H h m (gr_rs ta n)) Q := by
          intro w6
          obtain ⟨tz, htz⟩ : ∃ tz, tz = gr_rs ta n := ⟨_, rfl⟩
          have vz : ∀ q i, q ≠ 16 → q ≠ 17 → tz.1 q i = ta.1 q i := fun q i a b => by rw [htz]; exact gr_rs_v ⟨a, b⟩ n
          have vz2 : tz.2 = ta.2 := by rw [htz]; exact gr_rs_2 n
          rw [← htz]
          have z8 : tz.1 0 8 = f := by rw [vz 0 8 (by decide) (by decide)]; exact a8
          have z7 : tz.1 0 7 = 0 := by rw [vz 0 7 (by decide) (by decide), kpa.1 0 7 (by unfold gr_pr; omega), vb 0 7 (by decide) (by decide) (by decide) (by decide)]; exact l7
          have kpz : gr_kp (gs_hp s).length us nd tb tz := ⟨fun q i hq => by rw [vz q i (by unfold gr_pr at hq; omega) (by unfold gr_pr at hq; omega)]; exact kpa.1 q i hq, fun q i hq => by rw [vz2]; exact kpa.2 q i hq⟩
          have Yz : gr_Y (fun _ => False) 0 us nd tz K s := by
            refine Yb.kp (p := gs_pl s) kpz (by rw [vz 0 6 (by decide) (by decide)]; exact k6) (Nat.le_refl _) pn (Nat.le_refl _) (by rw [vz 0 23 (by decide) (by decide), k23]; exact Yb.pp.1.symm) (by rw [vz 0 25 (by decide) (by decide), k25]; exact Yb.u.symm) (by rw [vz 0 28 (by decide) (by decide), k28, hn]; exact Yb.hh.1.symm) (by rw [vz 0 39 (by decide) (by decide), k39]; exact Yb.n.symm) (fun i hi => ?_)
            obtain ⟨q1, q2⟩ := gr_rs_in (t := ta) n i (by omega)
            obtain ⟨c1, c2⟩ := vcp i (by omega)
            rw [htz, q1, q2, kpa.1 18 i (by unfold gr_pr; omega), kpa.1 19 i (by unfold gr_pr; omega), c1, c2, vb 16 i (by omega) (by decide) (by decide) (by decide), vb 17 i (by omega) (by decide) (by decide) (by decide)]
            exact ⟨rfl, rfl⟩
          have Xz : gr_X tz K s 0 := Yz.toX z7
          by_cases c7 : f = -7
          · rw [c7] at z8
            simp only [r46_0, r46_0n, r46_1, r46_4, r46_7, r46_7n, r46_8, r46_11, r46_12, r46_12n, r46_13, r46_16, r46_17, r46_17n, r46_18, r46_21, r46_22, r46_22n, r46_23, r46_26, r46_27, r46_27n, r46_28, r46_31, r46_33, r46_33n, r46_34, r46_37, r46_39, r46_40, r46_42, r46_44, r46_44n, r46_45, r46_48, r46_51, r46_51n, r46_52, r46_55, r46_57, r46_57n, r46_58, r46_61, r46_63, r46_64, r46_65, r46_65n, r46_66, r46_69, r46_71, r46_71n, r46_72, r46_75, r46_77, r46_78, r46_79, r46_82, r46_85, r46_85n, r46_86, r46_87, r46_90, r46_90n, r46_91, r46_92, r46_95, r46_95n, r46_96, r46_97, r46_98, r46_99, r46_104, r46_107, r46_110, r46_110n, r46_111, r46_114, r46_117, r46_117n, r46_121, r46_124, r46_124n, r46_125, r46_128, r46_131, r46_131n, r46_132, r46_135, r46_136, r46_136n, r46_137, r46_138, r46_141, r46_141n, r46_142, r46_143, r46_146, r46_146n, r46_147, r46_148, r46_151, r46_151n, r46_152, r46_154, r46_157, r46_157n, r46_158, r46_160, r46_163, r46_164, r46_168, r46_168n, r46_169, r46_172, r46_175, r46_175n, r46_176, r46_179, r46_181, r46_181n, r46_182, r46_185, r46_187, r46_188, r46_189, r46_189n, r46_190, r46_193, r46_195, r46_195n, r46_196, r46_199, r46_201, r46_202, r46_203, r46_206, r46_209, r46_209n, r46_210, r46_213, r46_215, r46_218, r46_218n, r46_219, r46_219n, r46_220, r46_223, r46_226, r46_226n, r46_227, r46_230, i32_10, reduceIte, gm_cmp1, gm_cmp3, gm_cmp4, gm_kd_sf, gm_ln_sf, gm_sf_1, gm_sf_2, gm_nw_1, gm_nw_2, gm_k_int, gm_k_ref, gm_k_null, gm_k_u, gm_k_long, and_true, true_and, true_or, or_true, or_false, false_or, and_self, or_self, if_true, if_false, List.map_nil, List.map_cons, List.sum_nil, List.sum_cons, Nat.zero_le, Option.toList_some, Option.toList_none, List.cons_append, List.nil_append, ne_eq, not_false_eq_true, not_true_eq_false, nI_1, nI_add, Value.category, Nat.reduceAdd, Nat.reduceMod, Nat.reduceLeDiff, Nat.reduceLT, Nat.reduceEqDiff, Nat.reducePow, Nat.le_refl, Nat.add_left_cancel_iff, Nat.add_eq_left, Nat.left_eq_add, Nat.add_zero, g_k0, g_k1, g_l1, g_p4, g_a1, g_w1, g_k2, g_l2, g_p10, g_a2, g_w2, g_k3, g_l3, g_p11, g_a3, g_w3, g_k4, g_l4, g_p12, g_a4, g_w4, g_k5, g_l5, g_p13, g_a5, g_w5, g_k6, g_l6, g_p14, g_a6, g_w6, g_k7, g_l7, g_p15, g_a7, g_w7, g_k8, g_l8, g_p16, g_a8, g_w8, g_k9, g_l9, g_p17, g_a9, g_w9, g_k10, g_l10, g_p18, g_a10, g_w10, g_k11, g_l11, g_p19, g_a11, g_w11, g_k12, g_l12, g_p20, g_a12, g_w12, g_k13, g_l13, g_p21, g_a13, g_w13, g_k14, g_l14, g_p22, g_a14, g_w14, g_k15, g_l15, g_p24, g_a15, g_w15, g_k16, g_l16, g_p26, g_a16, g_w16, g_k17, g_l17, g_p27, g_a17, g_w17, g_k18, g_l18, g_p29, g_a18, g_w18, g_k19, g_l19, g_p30, g_a19, g_w19, g_k20, g_l20, g_p31, g_a20, g_w20, g_k21, g_l21, g_p32, g_a21, g_w21, g_k22, g_l22, g_p33, g_a22, g_w22, g_k23, g_l23, g_p34, g_a23, g_w23, g_k24, g_l24, g_p35, g_a24, g_w24, g_k25, g_l25, g_p36, g_a25, g_w25, g_k26, g_l26, g_p37, g_a26, g_w26, g_k27, g_l27, g_p38, g_a27, g_w27, g_k28, g_l28, g_p40, g_a28, g_w28, g_k29, g_l29, g_p41, g_a29, g_w29, g_k30, g_l30, g_p42, g_a30, g_w30, g_k31, g_l31, g_p43, g_a31, g_w31, g_k32, g_l32, g_p44, g_a32, g_w32, g_k33, g_l33, g_p45, g_a33, g_w33, g_k34, g_l34, g_p46, g_a34, g_w34, g_f0, g_s0, g_f1, g_s1, g_f2, g_s2, g_f3, g_s3, g_f5, g_s5, g_f6, g_s6, g_f7, g_s7, g_f8, g_s8, g_f9, g_s9, g_f23, g_s23, g_f25, g_s25, g_f28, g_s28, g_f39, g_s39, g_f47, g_s47, gr_ui_eq, gr_ui_2, gr_ul_eq, gr_ul_1, gr_ui_no, gr_ui_ni, gr_ul_no, gr_ul_ni, z8, eq_self]
            rw [hQ]
            dsimp only
            rw [er, c7, if_pos rfl]
            exact ⟨rfl, tz, rfl, Xz⟩
          · have z8' : tz.1 0 8 = f := z8
            simp only [r46_0, r46_0n, r46_1, r46_4, r46_7, r46_7n, r46_8, r46_11, r46_12, r46_12n, r46_13, r46_16, r46_17, r46_17n, r46_18, r46_21, r46_22, r46_22n, r46_23, r46_26, r46_27, r46_27n, r46_28, r46_31, r46_33, r46_33n, r46_34, r46_37, r46_39, r46_40, r46_42, r46_44, r46_44n, r46_45, r46_48, r46_51, r46_51n, r46_52, r46_55, r46_57, r46_57n, r46_58, r46_61, r46_63, r46_64, r46_65, r46_65n, r46_66, r46_69, r46_71, r46_71n, r46_72, r46_75, r46_77, r46_78, r46_79, r46_82, r46_85, r46_85n, r46_86, r46_87, r46_90, r46_90n, r46_91, r46_92, r46_95, r46_95n, r46_96, r46_97, r46_98, r46_99, r46_104, r46_107, r46_110, r46_110n, r46_111, r46_114, r46_117, r46_117n, r46_121, r46_124, r46_124n, r46_125, r46_128, r46_131, r46_131n, r46_132, r46_135, r46_136, r46_136n, r46_137, r46_138, r46_141, r46_141n, r46_142, r46_143, r46_146, r46_146n, r46_147, r46_148, r46_151, r46_151n, r46_152, r46_154, r46_157, r46_157n, r46_158, r46_160, r46_163, r46_164, r46_168, r46_168n, r46_169, r46_172, r46_175, r46_175n, r46_176, r46_179, r46_181, r46_181n, r46_182, r46_185, r46_187, r46_188, r46_189, r46_189n, r46_190, r46_193, r46_195, r46_195n, r46_196, r46_199, r46_201, r46_202, r46_203, r46_206, r46_209, r46_209n, r46_210, r46_213, r46_215, r46_218, r46_218n, r46_219, r46_219n, r46_220, r46_223, r46_226, r46_226n, r46_227, r46_230, i32_10, reduceIte, gm_cmp1, gm_cmp3, gm_cmp4, gm_kd_sf, gm_ln_sf, gm_sf_1, gm_sf_2, gm_nw_1, gm_nw_2, gm_k_int, gm_k_ref, gm_k_null, gm_k_u, gm_k_long, and_true, true_and, true_or, or_true, or_false, false_or, and_self, or_self, if_true, if_false, List.map_nil, List.map_cons, List.sum_nil, List.sum_cons, Nat.zero_le, Option.toList_some, Option.toList_none, List.cons_append, List.nil_append, ne_eq, not_false_eq_true, not_true_eq_false, nI_1, nI_add, Value.category, Nat.reduceAdd, Nat.reduceMod, Nat.reduceLeDiff, Nat.reduceLT, Nat.reduceEqDiff, Nat.reducePow, Nat.le_refl, Nat.add_left_cancel_iff, Nat.add_eq_left, Nat.left_eq_add, Nat.add_zero, g_k0, g_k1, g_l1, g_p4, g_a1, g_w1, g_k2, g_l2, g_p10, g_a2, g_w2, g_k3, g_l3, g_p11, g_a3, g_w3, g_k4, g_l4, g_p12, g_a4, g_w4, g_k5, g_l5, g_p13, g_a5, g_w5, g_k6, g_l6, g_p14, g_a6, g_w6, g_k7, g_l7, g_p15, g_a7, g_w7, g_k8, g_l8, g_p16, g_a8, g_w8, g_k9, g_l9, g_p17, g_a9, g_w9, g_k10, g_l10, g_p18, g_a10, g_w10, g_k11, g_l11, g_p19, g_a11, g_w11, g_k12, g_l12, g_p20, g_a12, g_w12, g_k13, g_l13, g_p21, g_a13, g_w13, g_k14, g_l14, g_p22, g_a14, g_w14, g_k15, g_l15, g_p24, g_a15, g_w15, g_k16, g_l16, g_p26, g_a16, g_w16, g_k17, g_l17, g_p27, g_a17, g_w17, g_k18, g_l18, g_p29, g_a18, g_w18, g_k19, g_l19, g_p30, g_a19, g_w19, g_k20, g_l20, g_p31, g_a20, g_w20, g_k21, g_l21, g_p32, g_a21, g_w21, g_k22, g_l22, g_p33, g_a22, g_w22, g_k23, g_l23, g_p34, g_a23, g_w23, g_k24, g_l24, g_p35, g_a24, g_w24, g_k25, g_l25, g_p36, g_a25, g_w25, g_k26, g_l26, g_p37, g_a26, g_w26, g_k27, g_l27, g_p38, g_a27, g_w27, g_k28, g_l28, g_p40, g_a28, g_w28, g_k29, g_l29, g_p41, g_a29, g_w29, g_k30, g_l30, g_p42, g_a30, g_w30, g_k31, g_l31, g_p43, g_a31, g_w31, g_k32, g_l32, g_p44, g_a32, g_w32, g_k33, g_l33, g_p45, g_a33, g_w33, g_k34, g_l34, g_p46, g_a34, g_w34, g_f0, g_s0, g_f1, g_s1, g_f2, g_s2, g_f3, g_s3, g_f5, g_s5, g_f6, g_s6, g_f7, g_s7, g_f8, g_s8, g_f9, g_s9, g_f23, g_s23, g_f25, g_s25, g_f28, g_s28, g_f39, g_s39, g_f47, g_s47, gr_ui_eq, gr_ui_2, gr_ul_eq, gr_ul_1, gr_ui_no, gr_ui_ni, gr_ul_no, gr_ul_ni, z8, c7]
            rw [hQ]
            dsimp only
            rw [er, if_neg c7]
            refine ⟨rfl, _, rfl, ?_⟩
            have L := Xz.1
            have B := Xz.2.1
            have v9 : ∀ q i, (q = 0 → i ≠ 7) → (gr_ui tz 0 7 f).1 q i = tz.1 q i := fun q i z => by
              by_cases e0 : q = 0
              · rw [gr_ui_ni (z e0)]
              · rw [gr_ui_no e0]
            have C9 : gr_C (gr_ui tz 0 7 f) K := by
              intro c hc
              have z := Xz.2.2.1 c hc
              rw [v9 _ _ (by omega), v9 _ _ (by omega), v9 _ _ (by omega), v9 _ _ (by omega)]
              cases e : gs_cls K c with
              | none => rw [e] at z; exact z
              | some D =>
                rw [e] at z
                obtain ⟨q1, q2, q3, q4, q5, q6, q7, q8, q9⟩ := z
                refine ⟨q1, q2, by rw [v9 _ _ (by omega)]; exact q3, q4, q5, q6, q7, q8, fun j p hp => ?_⟩
                rw [v9 _ _ (by omega), v9 _ _ (by omega)]
                exact q9 j p hp
            exact Xz.ofK ⟨by rw [v9 _ _ (by decide)]; exact L.1, by rw [v9 _ _ (by decide)]; exact L.2.1, by rw [v9 _ _ (by decide)]; exact L.2.2.1, by rw [v9 _ _ (by decide)]; exact L.2.2.2⟩ ⟨by rw [v9 _ _ (by decide)]; exact B.1, B.2.1, fun i hi => by rw [v9 _ _ (by omega)]; exact B.2.2 i hi⟩ C9 Xz.2.2.2.1 gs_kk.refl ⟨fun _ _ _ => rfl, fun o i ho => v9 o i (by omega)⟩ (fun i hi => v9 0 i (by omega)) gr_ui_eq
        have loop : ∀ (j i : Nat) , i + j = n → gm_W E d 46 166 [.ref m, .int (nI (gs_pl s)), .int (nI (gs_hp s).length), .int (nI us), .int (nI n), .int (nI nd), .int (nI i)] [] (gr_H h m (gr_rs ta i)) Q := by
          intro j
          induction j with
          | zero =>
            intro i hi
            have : i = n := by omega
            subst this
            have c2 : nI i ≤ nI i := Int32.le_refl _
            have b28 : (gr_rs ta i).1 0 28 = nI i := by rw [gr_rs_v (by decide)]; exact k28
            rw [r46_166]
            simp only [r46_0, r46_0n, r46_1, r46_4, r46_7, r46_7n, r46_8, r46_11, r46_12, r46_12n, r46_13, r46_16, r46_17, r46_17n, r46_18, r46_21, r46_22, r46_22n, r46_23, r46_26, r46_27, r46_27n, r46_28, r46_31, r46_33, r46_33n, r46_34, r46_37, r46_39, r46_40, r46_42, r46_44, r46_44n, r46_45, r46_48, r46_51, r46_51n, r46_52, r46_55, r46_57, r46_57n, r46_58, r46_61, r46_63, r46_64, r46_65, r46_65n, r46_66, r46_69, r46_71, r46_71n, r46_72, r46_75, r46_77, r46_78, r46_79, r46_82, r46_85, r46_85n, r46_86, r46_87, r46_90, r46_90n, r46_91, r46_92, r46_95, r46_95n, r46_96, r46_97, r46_98, r46_99, r46_104, r46_107, r46_110, r46_110n, r46_111, r46_114, r46_117, r46_117n, r46_121, r46_124, r46_124n, r46_125, r46_128, r46_131, r46_131n, r46_132, r46_135, r46_136, r46_136n, r46_137, r46_138, r46_141, r46_141n, r46_142, r46_143, r46_146, r46_146n, r46_147, r46_148, r46_151, r46_151n, r46_152, r46_154, r46_157, r46_157n, r46_158, r46_160, r46_163, r46_164, r46_168, r46_168n, r46_169, r46_172, r46_175, r46_175n, r46_176, r46_179, r46_181, r46_181n, r46_182, r46_185, r46_187, r46_188, r46_189, r46_189n, r46_190, r46_193, r46_195, r46_195n, r46_196, r46_199, r46_201, r46_202, r46_203, r46_206, r46_210, r46_213, r46_215, r46_218, r46_218n, r46_219, r46_219n, r46_220, r46_223, r46_226, r46_226n, r46_227, r46_230, i32_10, reduceIte, gm_cmp1, gm_cmp3, gm_cmp4, gm_kd_sf, gm_ln_sf, gm_sf_1, gm_sf_2, gm_nw_1, gm_nw_2, gm_k_int, gm_k_ref, gm_k_null, gm_k_u, gm_k_long, and_true, true_and, true_or, or_true, or_false, false_or, and_self, or_self, if_true, if_false, List.map_nil, List.map_cons, List.sum_nil, List.sum_cons, Nat.zero_le, Option.toList_some, Option.toList_none, List.cons_append, List.nil_append, ne_eq, not_false_eq_true, not_true_eq_false, nI_1, nI_add, Value.category, Nat.reduceAdd, Nat.reduceMod, Nat.reduceLeDiff, Nat.reduceLT, Nat.reduceEqDiff, Nat.reducePow, Nat.le_refl, Nat.add_left_cancel_iff, Nat.add_eq_left, Nat.left_eq_add, Nat.add_zero, g_k0, g_k1, g_l1, g_p4, g_a1, g_w1, g_k2, g_l2, g_p10, g_a2, g_w2, g_k3, g_l3, g_p11, g_a3, g_w3, g_k4, g_l4, g_p12, g_a4, g_w4, g_k5, g_l5, g_p13, g_a5, g_w5, g_k6, g_l6, g_p14, g_a6, g_w6, g_k7, g_l7, g_p15, g_a7, g_w7, g_k8, g_l8, g_p16, g_a8, g_w8, g_k9, g_l9, g_p17, g_a9, g_w9, g_k10, g_l10, g_p18, g_a10, g_w10, g_k11, g_l11, g_p19, g_a11, g_w11, g_k12, g_l12, g_p20, g_a12, g_w12, g_k13, g_l13, g_p21, g_a13, g_w13, g_k14, g_l14, g_p22, g_a14, g_w14, g_k15, g_l15, g_p24, g_a15, g_w15, g_k16, g_l16, g_p26, g_a16, g_w16, g_k17, g_l17, g_p27, g_a17, g_w17, g_k18, g_l18, g_p29, g_a18, g_w18, g_k19, g_l19, g_p30, g_a19, g_w19, g_k20, g_l20, g_p31, g_a20, g_w20, g_k21, g_l21, g_p32, g_a21, g_w21, g_k22, g_l22, g_p33, g_a22, g_w22, g_k23, g_l23, g_p34, g_a23, g_w23, g_k24, g_l24, g_p35, g_a24, g_w24, g_k25, g_l25, g_p36, g_a25, g_w25, g_k26, g_l26, g_p37, g_a26, g_w26, g_k27, g_l27, g_p38, g_a27, g_w27, g_k28, g_l28, g_p40, g_a28, g_w28, g_k29, g_l29, g_p41, g_a29, g_w29, g_k30, g_l30, g_p42, g_a30, g_w30, g_k31, g_l31, g_p43, g_a31, g_w31, g_k32, g_l32, g_p44, g_a32, g_w32, g_k33, g_l33, g_p45, g_a33, g_w33, g_k34, g_l34, g_p46, g_a34, g_w34, g_f0, g_s0, g_f1, g_s1, g_f2, g_s2, g_f3, g_s3, g_f5, g_s5, g_f6, g_s6, g_f7, g_s7, g_f8, g_s8, g_f9, g_s9, g_f23, g_s23, g_f25, g_s25, g_f28, g_s28, g_f39, g_s39, g_f47, g_s47, gr_ui_eq, gr_ui_2, gr_ul_eq, gr_ul_1, gr_ui_no, gr_ui_ni, gr_ul_no, gr_ul_ni, b28, c2]
            exact last _
          | succ j ih =>
            intro i hi
            have c2 : ¬ nI n ≤ nI i := by rw [Int32.not_le]; exact nI_lt (by omega) (by omega)
            have b28 : (gr_rs ta i).1 0 28 = nI n := by rw [gr_rs_v (by decide)]; exact k28
            have i130 : i < 130 := by omega
            have b18 : (gr_rs ta i).1 18 i = ta.1 18 i := gr_rs_v (by decide) i
            have b19 : (gr_rs ta i).1 19 i = ta.1 19 i := gr_rs_v (by decide) i
            have w := ih (i + 1) (by omega)
            rw [r46_166]
            simp only [r46_0, r46_0n, r46_1, r46_4, r46_7, r46_7n, r46_8, r46_11, r46_12, r46_12n, r46_13, r46_16, r46_17, r46_17n, r46_18, r46_21, r46_22, r46_22n, r46_23, r46_26, r46_27, r46_27n, r46_28, r46_31, r46_33, r46_33n, r46_34, r46_37, r46_39, r46_40, r46_42, r46_44, r46_44n, r46_45, r46_48, r46_51, r46_51n, r46_52, r46_55, r46_57, r46_57n, r46_58, r46_61, r46_63, r46_64, r46_65, r46_65n, r46_66, r46_69, r46_71, r46_71n, r46_72, r46_75, r46_77, r46_78, r46_79, r46_82, r46_85, r46_85n, r46_86, r46_87, r46_90, r46_90n, r46_91, r46_92, r46_95, r46_95n, r46_96, r46_97, r46_98, r46_99, r46_104, r46_107, r46_110, r46_110n, r46_111, r46_114, r46_117, r46_117n, r46_121, r46_124, r46_124n, r46_125, r46_128, r46_131, r46_131n, r46_132, r46_135, r46_136, r46_136n, r46_137, r46_138, r46_141, r46_141n, r46_142, r46_143, r46_146, r46_146n, r46_147, r46_148, r46_151, r46_151n, r46_152, r46_154, r46_157, r46_157n, r46_158, r46_160, r46_163, r46_164, r46_168, r46_168n, r46_169, r46_172, r46_175, r46_175n, r46_176, r46_179, r46_181, r46_181n, r46_182, r46_185, r46_187, r46_188, r46_189, r46_189n, r46_190, r46_193, r46_195, r46_195n, r46_196, r46_199, r46_201, r46_202, r46_203, r46_206, r46_210, r46_213, r46_215, r46_218, r46_218n, r46_219, r46_219n, r46_220, r46_223, r46_226, r46_226n, r46_227, r46_230, i32_10, reduceIte, gm_cmp1, gm_cmp3, gm_cmp4, gm_kd_sf, gm_ln_sf, gm_sf_1, gm_sf_2, gm_nw_1, gm_nw_2, gm_k_int, gm_k_ref, gm_k_null, gm_k_u, gm_k_long, and_true, true_and, true_or, or_true, or_false, false_or, and_self, or_self, if_true, if_false, List.map_nil, List.map_cons, List.sum_nil, List.sum_cons, Nat.zero_le, Option.toList_some, Option.toList_none, List.cons_append, List.nil_append, ne_eq, not_false_eq_true, not_true_eq_false, nI_1, nI_add, Value.category, Nat.reduceAdd, Nat.reduceMod, Nat.reduceLeDiff, Nat.reduceLT, Nat.reduceEqDiff, Nat.reducePow, Nat.le_refl, Nat.add_left_cancel_iff, Nat.add_eq_left, Nat.left_eq_add, Nat.add_zero, g_k0, g_k1, g_l1, g_p4, g_a1, g_w1, g_k2, g_l2, g_p10, g_a2, g_w2, g_k3, g_l3, g_p11, g_a3, g_w3, g_k4, g_l4, g_p12, g_a4, g_w4, g_k5, g_l5, g_p13, g_a5, g_w5, g_k6, g_l6, g_p14, g_a6, g_w6, g_k7, g_l7, g_p15, g_a7, g_w7, g_k8, g_l8, g_p16, g_a8, g_w8, g_k9, g_l9, g_p17, g_a9, g_w9, g_k10, g_l10, g_p18, g_a10, g_w10, g_k11, g_l11, g_p19, g_a11, g_w11, g_k12, g_l12, g_p20, g_a12, g_w12, g_k13, g_l13, g_p21, g_a13, g_w13, g_k14, g_l14, g_p22, g_a14, g_w14, g_k15, g_l15, g_p24, g_a15, g_w15, g_k16, g_l16, g_p26, g_a16, g_w16, g_k17, g_l17, g_p27, g_a17, g_w17, g_k18, g_l18, g_p29, g_a18, g_w18, g_k19, g_l19, g_p30, g_a19, g_w19, g_k20, g_l20, g_p31, g_a20, g_w20, g_k21, g_l21, g_p32, g_a21, g_w21, g_k22, g_l22, g_p33, g_a22, g_w22, g_k23, g_l23, g_p34, g_a23, g_w23, g_k24, g_l24, g_p35, g_a24, g_w24, g_k25, g_l25, g_p36, g_a25, g_w25, g_k26, g_l26, g_p37, g_a26, g_w26, g_k27, g_l27, g_p38, g_a27, g_w27, g_k28, g_l28, g_p40, g_a28, g_w28, g_k29, g_l29, g_p41, g_a29, g_w29, g_k30, g_l30, g_p42, g_a30, g_w30, g_k31, g_l31, g_p43, g_a31, g_w31, g_k32, g_l32, g_p44, g_a32, g_w32, g_k33, g_l33, g_p45, g_a33, g_w33, g_k34, g_l34, g_p46, g_a34, g_w34, g_f0, g_s0, g_f1, g_s1, g_f2, g_s2, g_f3, g_s3, g_f5, g_s5, g_f6, g_s6, g_f7, g_s7, g_f8, g_s8, g_f9, g_s9, g_f23, g_s23, g_f25, g_s25, g_f28, g_s28, g_f39, g_s39, g_f47, g_s47, gr_ui_eq, gr_ui_2, gr_ul_eq, gr_ul_1, gr_ui_no, gr_ui_ni, gr_ul_no, gr_ul_ni, b28, c2, i130, b18, b19]
            exact w
        have w := loop n 0 (by omega)
        simp only [r46_0, r46_0n, r46_1, r46_4, r46_7, r46_7n, r46_8, r46_11, r46_12, r46_12n, r46_13, r46_16, r46_17, r46_17n, r46_18, r46_21, r46_22, r46_22n, r46_23, r46_26, r46_27, r46_27n, r46_28, r46_31, r46_33, r46_33n, r46_34, r46_37, r46_39, r46_40, r46_42, r46_44, r46_44n, r46_45, r46_48, r46_51, r46_51n, r46_52, r46_55, r46_57, r46_57n, r46_58, r46_61, r46_63, r46_64, r46_65, r46_65n, r46_66, r46_69, r46_71, r46_71n, r46_72, r46_75, r46_77, r46_78, r46_79, r46_82, r46_85, r46_85n, r46_86, r46_87, r46_90, r46_90n, r46_91, r46_92, r46_95, r46_95n, r46_96, r46_97, r46_98, r46_99, r46_104, r46_107, r46_110, r46_110n, r46_111, r46_114, r46_117, r46_117n, r46_121, r46_124, r46_124n, r46_125, r46_128, r46_131, r46_131n, r46_132, r46_135, r46_136, r46_136n, r46_137, r46_138, r46_141, r46_141n, r46_142, r46_143, r46_146, r46_146n, r46_147, r46_148, r46_151, r46_151n, r46_152, r46_154, r46_157, r46_157n, r46_158, r46_160, r46_163, r46_164, r46_168, r46_168n, r46_169, r46_172, r46_175, r46_175n, r46_176, r46_179, r46_181, r46_181n, r46_182, r46_185, r46_187, r46_188, r46_189, r46_189n, r46_190, r46_193, r46_195, r46_195n, r46_196, r46_199, r46_201, r46_202, r46_203, r46_206, r46_209, r46_209n, r46_210, r46_213, r46_215, r46_218, r46_218n, r46_219, r46_219n, r46_220, r46_223, r46_226, r46_226n, r46_227, r46_230, i32_10, reduceIte, gm_cmp1, gm_cmp3, gm_cmp4, gm_kd_sf, gm_ln_sf, gm_sf_1, gm_sf_2, gm_nw_1, gm_nw_2, gm_k_int, gm_k_ref, gm_k_null, gm_k_u, gm_k_long, and_true, true_and, true_or, or_true, or_false, false_or, and_self, or_self, if_true, if_false, List.map_nil, List.map_cons, List.sum_nil, List.sum_cons, Nat.zero_le, Option.toList_some, Option.toList_none, List.cons_append, List.nil_append, ne_eq, not_false_eq_true, not_true_eq_false, nI_1, nI_add, Value.category, Nat.reduceAdd, Nat.reduceMod, Nat.reduceLeDiff, Nat.reduceLT, Nat.reduceEqDiff, Nat.reducePow, Nat.le_refl, Nat.add_left_cancel_iff, Nat.add_eq_left, Nat.left_eq_add, Nat.add_zero, g_k0, g_k1, g_l1, g_p4, g_a1, g_w1, g_k2, g_l2, g_p10, g_a2, g_w2, g_k3, g_l3, g_p11, g_a3, g_w3, g_k4, g_l4, g_p12, g_a4, g_w4, g_k5, g_l5, g_p13, g_a5, g_w5, g_k6, g_l6, g_p14, g_a6, g_w6, g_k7, g_l7, g_p15, g_a7, g_w7, g_k8, g_l8, g_p16, g_a8, g_w8, g_k9, g_l9, g_p17, g_a9, g_w9, g_k10, g_l10, g_p18, g_a10, g_w10, g_k11, g_l11, g_p19, g_a11, g_w11, g_k12, g_l12, g_p20, g_a12, g_w12, g_k13, g_l13, g_p21, g_a13, g_w13, g_k14, g_l14, g_p22, g_a14, g_w14, g_k15, g_l15, g_p24, g_a15, g_w15, g_k16, g_l16, g_p26, g_a16, g_w16, g_k17, g_l17, g_p27, g_a17, g_w17, g_k18, g_l18, g_p29, g_a18, g_w18, g_k19, g_l19, g_p30, g_a19, g_w19, g_k20, g_l20, g_p31, g_a20, g_w20, g_k21, g_l21, g_p32, g_a21, g_w21, g_k22, g_l22, g_p33, g_a22, g_w22, g_k23, g_l23, g_p34, g_a23, g_w23, g_k24, g_l24, g_p35, g_a24, g_w24, g_k25, g_l25, g_p36, g_a25, g_w25, g_k26, g_l26, g_p37, g_a26, g_w26, g_k27, g_l27, g_p38, g_a27, g_w27, g_k28, g_l28, g_p40, g_a28, g_w28, g_k29, g_l29, g_p41, g_a29, g_w29, g_k30, g_l30, g_p42, g_a30, g_w30, g_k31, g_l31, g_p43, g_a31, g_w31, g_k32, g_l32, g_p44, g_a32, g_w32, g_k33, g_l33, g_p45, g_a33, g_w33, g_k34, g_l34, g_p46, g_a34, g_w34, g_f0, g_s0, g_f1, g_s1, g_f2, g_s2, g_f3, g_s3, g_f5, g_s5, g_f6, g_s6, g_f7, g_s7, g_f8, g_s8, g_f9, g_s9, g_f23, g_s23, g_f25, g_s25, g_f28, g_s28, g_f39, g_s39, g_f47, g_s47, gr_ui_eq, gr_ui_2, gr_ul_eq, gr_ul_1, gr_ui_no, gr_ui_ni, gr_ul_no, gr_ul_ni, e8, f0]
        rw [← hta]
        exact w
      rw [r46_103]
      by_cases ct : t'.1 0 47 ≤ 0
      · simp only [r46_0, r46_0n, r46_1, r46_4, r46_7, r46_7n, r46_8, r46_11, r46_12, r46_12n, r46_13, r46_16, r46_17, r46_17n, r46_18, r46_21, r46_22, r46_22n, r46_23, r46_26, r46_27, r46_27n, r46_28, r46_31, r46_33, r46_33n, r46_34, r46_37, r46_39, r46_40, r46_42, r46_44, r46_44n, r46_45, r46_48, r46_51, r46_51n, r46_52, r46_55, r46_57, r46_57n, r46_58, r46_61, r46_63, r46_64, r46_65, r46_65n, r46_66, r46_69, r46_71, r46_71n, r46_72, r46_75, r46_77, r46_78, r46_79, r46_82, r46_85, r46_85n, r46_86, r46_87, r46_90, r46_90n, r46_91, r46_92, r46_95, r46_95n, r46_96, r46_97, r46_98, r46_99, r46_104, r46_107, r46_110, r46_110n, r46_111, r46_114, r46_117, r46_117n, r46_121, r46_125, r46_128, r46_131, r46_131n, r46_132, r46_135, r46_136, r46_136n, r46_137, r46_138, r46_141, r46_141n, r46_142, r46_143, r46_146, r46_146n, r46_147, r46_148, r46_151, r46_151n, r46_152, r46_154, r46_157, r46_157n, r46_158, r46_160, r46_163, r46_164, r46_166, r46_168, r46_168n, r46_169, r46_172, r46_175, r46_175n, r46_176, r46_179, r46_181, r46_181n, r46_182, r46_185, r46_187, r46_188, r46_189, r46_189n, r46_190, r46_193, r46_195, r46_195n, r46_196, r46_199, r46_201, r46_202, r46_203, r46_206, r46_209, r46_209n, r46_210, r46_213, r46_215, r46_218, r46_218n, r46_219, r46_219n, r46_220, r46_223, r46_226, r46_226n, r46_227, r46_230, i32_10, reduceIte, gm_cmp1, gm_cmp3, gm_cmp4, gm_kd_sf, gm_ln_sf, gm_sf_1, gm_sf_2, gm_nw_1, gm_nw_2, gm_k_int, gm_k_ref, gm_k_null, gm_k_u, gm_k_long, and_true, true_and, true_or, or_true, or_false, false_or, and_self, or_self, if_true, if_false, List.map_nil, List.map_cons, List.sum_nil, List.sum_cons, Nat.zero_le, Option.toList_some, Option.toList_none, List.cons_append, List.nil_append, ne_eq, not_false_eq_true, not_true_eq_false, nI_1, nI_add, Value.category, Nat.reduceAdd, Nat.reduceMod, Nat.reduceLeDiff, Nat.reduceLT, Nat.reduceEqDiff, Nat.reducePow, Nat.le_refl, Nat.add_left_cancel_iff, Nat.add_eq_left, Nat.left_eq_add, Nat.add_zero, g_k0, g_k1, g_l1, g_p4, g_a1, g_w1, g_k2, g_l2, g_p10, g_a2, g_w2, g_k3, g_l3, g_p11, g_a3, g_w3, g_k4, g_l4, g_p12, g_a4, g_w4, g_k5, g_l5, g_p13, g_a5, g_w5, g_k6, g_l6, g_p14, g_a6, g_w6, g_k7, g_l7, g_p15, g_a7, g_w7, g_k8, g_l8, g_p16, g_a8, g_w8, g_k9, g_l9, g_p17, g_a9, g_w9, g_k10, g_l10, g_p18, g_a10, g_w10, g_k11, g_l11, g_p19, g_a11, g_w11, g_k12, g_l12, g_p20, g_a12, g_w12, g_k13, g_l13, g_p21, g_a13, g_w13, g_k14, g_l14, g_p22, g_a14, g_w14, g_k15, g_l15, g_p24, g_a15, g_w15, g_k16, g_l16, g_p26, g_a16, g_w16, g_k17, g_l17, g_p27, g_a17, g_w17, g_k18, g_l18, g_p29, g_a18, g_w18, g_k19, g_l19, g_p30, g_a19, g_w19, g_k20, g_l20, g_p31, g_a20, g_w20, g_k21, g_l21, g_p32, g_a21, g_w21, g_k22, g_l22, g_p33, g_a22, g_w22, g_k23, g_l23, g_p34, g_a23, g_w23, g_k24, g_l24, g_p35, g_a24, g_w24, g_k25, g_l25, g_p36, g_a25, g_w25, g_k26, g_l26, g_p37, g_a26, g_w26, g_k27, g_l27, g_p38, g_a27, g_w27, g_k28, g_l28, g_p40, g_a28, g_w28, g_k29, g_l29, g_p41, g_a29, g_w29, g_k30, g_l30, g_p42, g_a30, g_w30, g_k31, g_l31, g_p43, g_a31, g_w31, g_k32, g_l32, g_p44, g_a32, g_w32, g_k33, g_l33, g_p45, g_a33, g_w33, g_k34, g_l34, g_p46, g_a34, g_w34, g_f0, g_s0, g_f1, g_s1, g_f2, g_s2, g_f3, g_s3, g_f5, g_s5, g_f6, g_s6, g_f7, g_s7, g_f8, g_s8, g_f9, g_s9, g_f23, g_s23, g_f25, g_s25, g_f28, g_s28, g_f39, g_s39, g_f47, g_s47, gr_ui_eq, gr_ui_2, gr_ul_eq, gr_ul_1, gr_ui_no, gr_ui_ni, gr_ul_no, gr_ul_ni, ct]
        exact back
      · simp only [r46_0, r46_0n, r46_1, r46_4, r46_7, r46_7n, r46_8, r46_11, r46_12, r46_12n, r46_13, r46_16, r46_17, r46_17n, r46_18, r46_21, r46_22, r46_22n, r46_23, r46_26, r46_27, r46_27n, r46_28, r46_31, r46_33, r46_33n, r46_34, r46_37, r46_39, r46_40, r46_42, r46_44, r46_44n, r46_45, r46_48, r46_51, r46_51n, r46_52, r46_55, r46_57, r46_57n, r46_58, r46_61, r46_63, r46_64, r46_65, r46_65n, r46_66, r46_69, r46_71, r46_71n, r46_72, r46_75, r46_77, r46_78, r46_79, r46_82, r46_85, r46_85n, r46_86, r46_87, r46_90, r46_90n, r46_91, r46_92, r46_95, r46_95n, r46_96, r46_97, r46_98, r46_99, r46_104, r46_107, r46_110, r46_110n, r46_111, r46_114, r46_117, r46_117n, r46_121, r46_125, r46_128, r46_131, r46_131n, r46_132, r46_135, r46_136, r46_136n, r46_137, r46_138, r46_141, r46_141n, r46_142, r46_143, r46_146, r46_146n, r46_147, r46_148, r46_151, r46_151n, r46_152, r46_154, r46_157, r46_157n, r46_158, r46_160, r46_163, r46_164, r46_166, r46_168, r46_168n, r46_169, r46_172, r46_175, r46_175n, r46_176, r46_179, r46_181, r46_181n, r46_182, r46_185, r46_187, r46_188, r46_189, r46_189n, r46_190, r46_193, r46_195, r46_195n, r46_196, r46_199, r46_201, r46_202, r46_203, r46_206, r46_209, r46_209n, r46_210, r46_213, r46_215, r46_218, r46_218n, r46_219, r46_219n, r46_220, r46_223, r46_226, r46_226n, r46_227, r46_230, i32_10, reduceIte, gm_cmp1, gm_cmp3, gm_cmp4, gm_kd_sf, gm_ln_sf, gm_sf_1, gm_sf_2, gm_nw_1, gm_nw_2, gm_k_int, gm_k_ref, gm_k_null, gm_k_u, gm_k_long, and_true, true_and, true_or, or_true, or_false, false_or, and_self, or_self, if_true, if_false, List.map_nil, List.map_cons, List.sum_nil, List.sum_cons, Nat.zero_le, Option.toList_some, Option.toList_none, List.cons_append, List.nil_append, ne_eq, not_false_eq_true, not_true_eq_false, nI_1, nI_add, Value.category, Nat.reduceAdd, Nat.reduceMod, Nat.reduceLeDiff, Nat.reduceLT, Nat.reduceEqDiff, Nat.reducePow, Nat.le_refl, Nat.add_left_cancel_iff, Nat.add_eq_left, Nat.left_eq_add, Nat.add_zero, g_k0, g_k1, g_l1, g_p4, g_a1, g_w1, g_k2, g_l2, g_p10, g_a2, g_w2, g_k3, g_l3, g_p11, g_a3, g_w3, g_k4, g_l4, g_p12, g_a4, g_w4, g_k5, g_l5, g_p13, g_a5, g_w5, g_k6, g_l6, g_p14, g_a6, g_w6, g_k7, g_l7, g_p15, g_a7, g_w7, g_k8, g_l8, g_p16, g_a8, g_w8, g_k9, g_l9, g_p17, g_a9, g_w9, g_k10, g_l10, g_p18, g_a10, g_w10, g_k11, g_l11, g_p19, g_a11, g_w11, g_k12, g_l12, g_p20, g_a12, g_w12, g_k13, g_l13, g_p21, g_a13, g_w13, g_k14, g_l14, g_p22, g_a14, g_w14, g_k15, g_l15, g_p24, g_a15, g_w15, g_k16, g_l16, g_p26, g_a16, g_w16, g_k17, g_l17, g_p27, g_a17, g_w17, g_k18, g_l18, g_p29, g_a18, g_w18, g_k19, g_l19, g_p30, g_a19, g_w19, g_k20, g_l20, g_p31, g_a20, g_w20, g_k21, g_l21, g_p32, g_a21, g_w21, g_k22, g_l22, g_p33, g_a22, g_w22, g_k23, g_l23, g_p34, g_a23, g_w23, g_k24, g_l24, g_p35, g_a24, g_w24, g_k25, g_l25, g_p36, g_a25, g_w25, g_k26, g_l26, g_p37, g_a26, g_w26, g_k27, g_l27, g_p38, g_a27, g_w27, g_k28, g_l28, g_p40, g_a28, g_w28, g_k29, g_l29, g_p41, g_a29, g_w29, g_k30, g_l30, g_p42, g_a30, g_w30, g_k31, g_l31, g_p43, g_a31, g_w31, g_k32, g_l32, g_p44, g_a32, g_w32, g_k33, g_l33, g_p45, g_a33, g_w33, g_k34, g_l34, g_p46, g_a34, g_w34, g_f0, g_s0, g_f1, g_s1, g_f2, g_s2, g_f3, g_s3, g_f5, g_s5, g_f6, g_s6, g_f7, g_s7, g_f8, g_s8, g_f9, g_s9, g_f23, g_s23, g_f25, g_s25, g_f28, g_s28, g_f39, g_s39, g_f47, g_s47, gr_ui_eq, gr_ui_2, gr_ul_eq, gr_ul_1, gr_ui_no, gr_ui_ni, gr_ul_no, gr_ul_ni, ct, e8, f0]
        exact back
  -- copies, then on
  have copied : ∀ (i : Nat), i = n → gm_W E d 46 85 [.ref m, .int (nI (gs_pl s)), .int (nI (gs_hp s).length), .int (nI us), .int (nI n), .int (nI nd), .int (nI i)] [] (gr_H h m (gr_cp t n)) Q := by
    intro i hi
    obtain ⟨ta, hta⟩ : ∃ ta, ta = gr_ui (gr_ui (gr_cp t n) 0 8 0) 0 47 0 := ⟨_, rfl⟩
    have a47 : ta.1 0 47 = nI 0 := by rw [hta, gr_ui_eq]; rfl
    simp only [r46_0, r46_0n, r46_1, r46_4, r46_7, r46_7n, r46_8, r46_11, r46_12, r46_12n, r46_13, r46_16, r46_17, r46_17n, r46_18, r46_21, r46_22, r46_22n, r46_23, r46_26, r46_27, r46_27n, r46_28, r46_31, r46_33, r46_33n, r46_34, r46_37, r46_39, r46_40, r46_42, r46_44, r46_44n, r46_45, r46_48, r46_51, r46_51n, r46_52, r46_55, r46_57, r46_57n, r46_58, r46_61, r46_63, r46_64, r46_65, r46_65n, r46_66, r46_69, r46_71, r46_71n, r46_72, r46_75, r46_77, r46_78, r46_79, r46_82, r46_85, r46_85n, r46_86, r46_87, r46_90, r46_90n, r46_91, r46_92, r46_95, r46_95n, r46_96, r46_97, r46_98, r46_99, r46_104, r46_107, r46_110, r46_110n, r46_111, r46_114, r46_117, r46_117n, r46_121, r46_124, r46_124n, r46_125, r46_128, r46_131, r46_131n, r46_132, r46_135, r46_136, r46_136n, r46_137, r46_138, r46_141, r46_141n, r46_142, r46_143, r46_146, r46_146n, r46_147, r46_148, r46_151, r46_151n, r46_152, r46_154, r46_157, r46_157n, r46_158, r46_160, r46_163, r46_164, r46_166, r46_168, r46_168n, r46_169, r46_172, r46_175, r46_175n, r46_176, r46_179, r46_181, r46_181n, r46_182, r46_185, r46_187, r46_188, r46_189, r46_189n, r46_190, r46_193, r46_195, r46_195n, r46_196, r46_199, r46_201, r46_202, r46_203, r46_206, r46_209, r46_209n, r46_210, r46_213, r46_215, r46_218, r46_218n, r46_219, r46_219n, r46_220, r46_223, r46_226, r46_226n, r46_227, r46_230, i32_10, reduceIte, gm_cmp1, gm_cmp3, gm_cmp4, gm_kd_sf, gm_ln_sf, gm_sf_1, gm_sf_2, gm_nw_1, gm_nw_2, gm_k_int, gm_k_ref, gm_k_null, gm_k_u, gm_k_long, and_true, true_and, true_or, or_true, or_false, false_or, and_self, or_self, if_true, if_false, List.map_nil, List.map_cons, List.sum_nil, List.sum_cons, Nat.zero_le, Option.toList_some, Option.toList_none, List.cons_append, List.nil_append, ne_eq, not_false_eq_true, not_true_eq_false, nI_1, nI_add, Value.category, Nat.reduceAdd, Nat.reduceMod, Nat.reduceLeDiff, Nat.reduceLT, Nat.reduceEqDiff, Nat.reducePow, Nat.le_refl, Nat.add_left_cancel_iff, Nat.add_eq_left, Nat.left_eq_add, Nat.add_zero, g_k0, g_k1, g_l1, g_p4, g_a1, g_w1, g_k2, g_l2, g_p10, g_a2, g_w2, g_k3, g_l3, g_p11, g_a3, g_w3, g_k4, g_l4, g_p12, g_a4, g_w4, g_k5, g_l5, g_p13, g_a5, g_w5, g_k6, g_l6, g_p14, g_a6, g_w6, g_k7, g_l7, g_p15, g_a7, g_w7, g_k8, g_l8, g_p16, g_a8, g_w8, g_k9, g_l9, g_p17, g_a9, g_w9, g_k10, g_l10, g_p18, g_a10, g_w10, g_k11, g_l11, g_p19, g_a11, g_w11, g_k12, g_l12, g_p20, g_a12, g_w12, g_k13, g_l13, g_p21, g_a13, g_w13, g_k14, g_l14, g_p22, g_a14, g_w14, g_k15, g_l15, g_p24, g_a15, g_w15, g_k16, g_l16, g_p26, g_a16, g_w16, g_k17, g_l17, g_p27, g_a17, g_w17, g_k18, g_l18, g_p29, g_a18, g_w18, g_k19, g_l19, g_p30, g_a19, g_w19, g_k20, g_l20, g_p31, g_a20, g_w20, g_k21, g_l21, g_p32, g_a21, g_w21, g_k22, g_l22, g_p33, g_a22, g_w22, g_k23, g_l23, g_p34, g_a23, g_w23, g_k24, g_l24, g_p35, g_a24, g_w24, g_k25, g_l25, g_p36, g_a25, g_w25, g_k26, g_l26, g_p37, g_a26, g_w26, g_k27, g_l27, g_p38, g_a27, g_w27, g_k28, g_l28, g_p40, g_a28, g_w28, g_k29, g_l29, g_p41, g_a29, g_w29, g_k30, g_l30, g_p42, g_a30, g_w30, g_k31, g_l31, g_p43, g_a31, g_w31, g_k32, g_l32, g_p44, g_a32, g_w32, g_k33, g_l33, g_p45, g_a33, g_w33, g_k34, g_l34, g_p46, g_a34, g_w34, g_f0, g_s0, g_f1, g_s1, g_f2, g_s2, g_f3, g_s3, g_f5, g_s5, g_f6, g_s6, g_f7, g_s7, g_f8, g_s8, g_f9, g_s9, g_f23, g_s23, g_f25, g_s25, g_f28, g_s28, g_f39, g_s39, g_f47, g_s47, gr_ui_eq, gr_ui_2, gr_ul_eq, gr_ul_1, gr_ui_no, gr_ui_ni, gr_ul_no, gr_ul_ni]
    rw [← hta]
    refine c46_100 (by simp) g_k0 (by omega) (m_push a47 (by decide)) (gx_kn ?_) gx_kx
    obtain ⟨tb, htb⟩ : ∃ tb, tb = gr_push ta 0 1 1 0 0 := ⟨_, rfl⟩
    rw [← htb]
    obtain ⟨p1, p2, p3, p4, p5, p6, p7, p8, p9⟩ := gr_push_fr (t := ta) (tp := 0) (k := 1) (dd := 1) (a := 0) (b := 0)
    rw [← htb] at p1 p2 p3 p4 p5 p6 p7 p8 p9
    have hmb : gr_hm ta tb := by rw [htb]; exact gr_hm.refl.push
    have vb : ∀ q i, (q = 0 → i ≠ 8 ∧ i ≠ 47) → q ≠ 18 → q ≠ 19 → q < 28 → tb.1 q i = t.1 q i := fun q i z a b e => by
      have e1 : tb.1 q i = ta.1 q i := by
        by_cases e0 : q = 0 ∧ i = 9
        · rw [htb]
          unfold gr_push
          rw [e0.1, e0.2, gr_ui_ni (by decide), gr_ui_no (by decide), gr_ui_no (by decide), gr_ui_no (by decide), gr_ui_no (by decide), gr_ui_no (by decide), gr_ui_no (by decide), gr_ui_no (by decide)]
        · exact hmb.1 q i e (fun y => ⟨(z y).1, fun w => e0 ⟨y, w⟩, (z y).2⟩)
      rw [e1, hta]
      by_cases e0 : q = 0
      · rw [gr_ui_ni (z e0).2, gr_ui_ni (z e0).1, gr_cp_v ⟨a, b⟩]
      · rw [gr_ui_no e0, gr_ui_no e0, gr_cp_v ⟨a, b⟩]
    have vb2 : tb.2 = t.2 := by rw [hmb.2, hta]; show (gr_cp t n).2 = _; exact gr_cp_2 n
    have vcp : ∀ i, i < n → tb.1 18 i = t.1 16 i ∧ tb.1 19 i = t.1 17 i := fun i hi => by
      obtain ⟨q1, q2⟩ := gr_cp_in (t := t) n i hi
      rw [hmb.1 18 i (by decide) (by omega), hmb.1 19 i (by decide) (by omega), hta, gr_ui_no (by decide), gr_ui_no (by decide), gr_ui_no (by decide), gr_ui_no (by decide)]
      exact ⟨q1, q2⟩
    have Yb : gr_Y (fun _ => False) 0 us nd tb K s := by
      have z : ∀ i, i ≠ 8 → i ≠ 47 → tb.1 0 i = t.1 0 i := fun i a b => vb 0 i (fun _ => ⟨a, b⟩) (by decide) (by decide) (by decide)
      have kz : ∀ q i, q ≠ 18 → q ≠ 19 → q < 28 → (q = 0 → i ≠ 8 ∧ i ≠ 47) → tb.1 q i = t.1 q i := fun q i a b e g => vb q i g a b e
      have := Y.cpy (t' := tb) (fun q i a b e g => kz q i a b e g) vb2
      exact this
    refine m_rdL (by omega) (gr_outr (d := d - 1) hK (by omega) Yb (p9.trans (by rw [hta, gr_ui_ni (by decide), gr_ui_eq])) p8 ⟨p1, p2, p3⟩) (fin tb vb vb2 vcp Yb _)
  have cl : ∀ (j i : Nat), i + j = n → gm_W E d 46 42 [.ref m, .int (nI (gs_pl s)), .int (nI (gs_hp s).length), .int (nI us), .int (nI n), .int (nI nd), .int (nI i)] [] (gr_H h m (gr_cp t i)) Q := by
    intro j
    induction j with
    | zero =>
      intro i hi
      have : i = n := by omega
      subst this
      have c2 : nI i ≤ nI i := Int32.le_refl _
      have b28 : (gr_cp t i).1 0 28 = nI i := by rw [gr_cp_v (by decide)]; exact h28
      rw [r46_42]
      simp only [r46_0, r46_0n, r46_1, r46_4, r46_7, r46_7n, r46_8, r46_11, r46_12, r46_12n, r46_13, r46_16, r46_17, r46_17n, r46_18, r46_21, r46_22, r46_22n, r46_23, r46_26, r46_27, r46_27n, r46_28, r46_31, r46_33, r46_33n, r46_34, r46_37, r46_39, r46_40, r46_44, r46_44n, r46_45, r46_48, r46_51, r46_51n, r46_52, r46_55, r46_57, r46_57n, r46_58, r46_61, r46_63, r46_64, r46_65, r46_65n, r46_66, r46_69, r46_71, r46_71n, r46_72, r46_75, r46_77, r46_78, r46_79, r46_82, r46_86, r46_87, r46_90, r46_90n, r46_91, r46_92, r46_95, r46_95n, r46_96, r46_97, r46_98, r46_99, r46_104, r46_107, r46_110, r46_110n, r46_111, r46_114, r46_117, r46_117n, r46_121, r46_124, r46_124n, r46_125, r46_128, r46_131, r46_131n, r46_132, r46_135, r46_136, r46_136n, r46_137, r46_138, r46_141, r46_141n, r46_142, r46_143, r46_146, r46_146n, r46_147, r46_148, r46_151, r46_151n, r46_152, r46_154, r46_157, r46_157n, r46_158, r46_160, r46_163, r46_164, r46_166, r46_168, r46_168n, r46_169, r46_172, r46_175, r46_175n, r46_176, r46_179, r46_181, r46_181n, r46_182, r46_185, r46_187, r46_188, r46_189, r46_189n, r46_190, r46_193, r46_195, r46_195n, r46_196, r46_199, r46_201, r46_202, r46_203, r46_206, r46_209, r46_209n, r46_210, r46_213, r46_215, r46_218, r46_218n, r46_219, r46_219n, r46_220, r46_223, r46_226, r46_226n, r46_227, r46_230, i32_10, reduceIte, gm_cmp1, gm_cmp3, gm_cmp4, gm_kd_sf, gm_ln_sf, gm_sf_1, gm_sf_2, gm_nw_1, gm_nw_2, gm_k_int, gm_k_ref, gm_k_null, gm_k_u, gm_k_long, and_true, true_and, true_or, or_true, or_false, false_or, and_self, or_self, if_true, if_false, List.map_nil, List.map_cons, List.sum_nil, List.sum_cons, Nat.zero_le, Option.toList_some, Option.toList_none, List.cons_append, List.nil_append, ne_eq, not_false_eq_true, not_true_eq_false, nI_1, nI_add, Value.category, Nat.reduceAdd, Nat.reduceMod, Nat.reduceLeDiff, Nat.reduceLT, Nat.reduceEqDiff, Nat.reducePow, Nat.le_refl, Nat.add_left_cancel_iff, Nat.add_eq_left, Nat.left_eq_add, Nat.add_zero, g_k0, g_k1, g_l1, g_p4, g_a1, g_w1, g_k2, g_l2, g_p10, g_a2, g_w2, g_k3, g_l3, g_p11, g_a3, g_w3, g_k4, g_l4, g_p12, g_a4, g_w4, g_k5, g_l5, g_p13, g_a5, g_w5, g_k6, g_l6, g_p14, g_a6, g_w6, g_k7, g_l7, g_p15, g_a7, g_w7, g_k8, g_l8, g_p16, g_a8, g_w8, g_k9, g_l9, g_p17, g_a9, g_w9, g_k10, g_l10, g_p18, g_a10, g_w10, g_k11, g_l11, g_p19, g_a11, g_w11, g_k12, g_l12, g_p20, g_a12, g_w12, g_k13, g_l13, g_p21, g_a13, g_w13, g_k14, g_l14, g_p22, g_a14, g_w14, g_k15, g_l15, g_p24, g_a15, g_w15, g_k16, g_l16, g_p26, g_a16, g_w16, g_k17, g_l17, g_p27, g_a17, g_w17, g_k18, g_l18, g_p29, g_a18, g_w18, g_k19, g_l19, g_p30, g_a19, g_w19, g_k20, g_l20, g_p31, g_a20, g_w20, g_k21, g_l21, g_p32, g_a21, g_w21, g_k22, g_l22, g_p33, g_a22, g_w22, g_k23, g_l23, g_p34, g_a23, g_w23, g_k24, g_l24, g_p35, g_a24, g_w24, g_k25, g_l25, g_p36, g_a25, g_w25, g_k26, g_l26, g_p37, g_a26, g_w26, g_k27, g_l27, g_p38, g_a27, g_w27, g_k28, g_l28, g_p40, g_a28, g_w28, g_k29, g_l29, g_p41, g_a29, g_w29, g_k30, g_l30, g_p42, g_a30, g_w30, g_k31, g_l31, g_p43, g_a31, g_w31, g_k32, g_l32, g_p44, g_a32, g_w32, g_k33, g_l33, g_p45, g_a33, g_w33, g_k34, g_l34, g_p46, g_a34, g_w34, g_f0, g_s0, g_f1, g_s1, g_f2, g_s2, g_f3, g_s3, g_f5, g_s5, g_f6, g_s6, g_f7, g_s7, g_f8, g_s8, g_f9, g_s9, g_f23, g_s23, g_f25, g_s25, g_f28, g_s28, g_f39, g_s39, g_f47, g_s47, gr_ui_eq, gr_ui_2, gr_ul_eq, gr_ul_1, gr_ui_no, gr_ui_ni, gr_ul_no, gr_ul_ni, b28, c2]
      exact copied i rfl
    | succ j ih =>
      intro i hi
      have c2 : ¬ nI n ≤ nI i := by rw [Int32.not_le]; exact nI_lt (by omega) (by omega)
      have b28 : (gr_cp t i).1 0 28 = nI n := by rw [gr_cp_v (by decide)]; exact h28
      have i130 : i < 130 := by omega
      have b16 : (gr_cp t i).1 16 i = t.1 16 i := gr_cp_v (by decide) i
      have b17 : (gr_cp t i).1 17 i = t.1 17 i := gr_cp_v (by decide) i
      have w := ih (i + 1) (by omega)
      rw [r46_42]
      simp only [r46_0, r46_0n, r46_1, r46_4, r46_7, r46_7n, r46_8, r46_11, r46_12, r46_12n, r46_13, r46_16, r46_17, r46_17n, r46_18, r46_21, r46_22, r46_22n, r46_23, r46_26, r46_27, r46_27n, r46_28, r46_31, r46_33, r46_33n, r46_34, r46_37, r46_39, r46_40, r46_44, r46_44n, r46_45, r46_48, r46_51, r46_51n, r46_52, r46_55, r46_57, r46_57n, r46_58, r46_61, r46_63, r46_64, r46_65, r46_65n, r46_66, r46_69, r46_71, r46_71n, r46_72, r46_75, r46_77, r46_78, r46_79, r46_82, r46_86, r46_87, r46_90, r46_90n, r46_91, r46_92, r46_95, r46_95n, r46_96, r46_97, r46_98, r46_99, r46_104, r46_107, r46_110, r46_110n, r46_111, r46_114, r46_117, r46_117n, r46_121, r46_124, r46_124n, r46_125, r46_128, r46_131, r46_131n, r46_132, r46_135, r46_136, r46_136n, r46_137, r46_138, r46_141, r46_141n, r46_142, r46_143, r46_146, r46_146n, r46_147, r46_148, r46_151, r46_151n, r46_152, r46_154, r46_157, r46_157n, r46_158, r46_160, r46_163, r46_164, r46_166, r46_168, r46_168n, r46_169, r46_172, r46_175, r46_175n, r46_176, r46_179, r46_181, r46_181n, r46_182, r46_185, r46_187, r46_188, r46_189, r46_189n, r46_190, r46_193, r46_195, r46_195n, r46_196, r46_199, r46_201, r46_202, r46_203, r46_206, r46_209, r46_209n, r46_210, r46_213, r46_215, r46_218, r46_218n, r46_219, r46_219n, r46_220, r46_223, r46_226, r46_226n, r46_227, r46_230, i32_10, reduceIte, gm_cmp1, gm_cmp3, gm_cmp4, gm_kd_sf, gm_ln_sf, gm_sf_1, gm_sf_2, gm_nw_1, gm_nw_2, gm_k_int, gm_k_ref, gm_k_null, gm_k_u, gm_k_long, and_true, true_and, true_or, or_true, or_false, false_or, and_self, or_self, if_true, if_false, List.map_nil, List.map_cons, List.sum_nil, List.sum_cons, Nat.zero_le, Option.toList_some, Option.toList_none, List.cons_append, List.nil_append, ne_eq, not_false_eq_true, not_true_eq_false, nI_1, nI_add, Value.category, Nat.reduceAdd, Nat.reduceMod, Nat.reduceLeDiff, Nat.reduceLT, Nat.reduceEqDiff, Nat.reducePow, Nat.le_refl, Nat.add_left_cancel_iff, Nat.add_eq_left, Nat.left_eq_add, Nat.add_zero, g_k0, g_k1, g_l1, g_p4, g_a1, g_w1, g_k2, g_l2, g_p10, g_a2, g_w2, g_k3, g_l3, g_p11, g_a3, g_w3, g_k4, g_l4, g_p12, g_a4, g_w4, g_k5, g_l5, g_p13, g_a5, g_w5, g_k6, g_l6, g_p14, g_a6, g_w6, g_k7, g_l7, g_p15, g_a7, g_w7, g_k8, g_l8, g_p16, g_a8, g_w8, g_k9, g_l9, g_p17, g_a9, g_w9, g_k10, g_l10, g_p18, g_a10, g_w10, g_k11, g_l11, g_p19, g_a11, g_w11, g_k12, g_l12, g_p20, g_a12, g_w12, g_k13, g_l13, g_p21, g_a13, g_w13, g_k14, g_l14, g_p22, g_a14, g_w14, g_k15, g_l15, g_p24, g_a15, g_w15, g_k16, g_l16, g_p26, g_a16, g_w16, g_k17, g_l17, g_p27, g_a17, g_w17, g_k18, g_l18, g_p29, g_a18, g_w18, g_k19, g_l19, g_p30, g_a19, g_w19, g_k20, g_l20, g_p31, g_a20, g_w20, g_k21, g_l21, g_p32, g_a21, g_w21, g_k22, g_l22, g_p33, g_a22, g_w22, g_k23, g_l23, g_p34, g_a23, g_w23, g_k24, g_l24, g_p35, g_a24, g_w24, g_k25, g_l25, g_p36, g_a25, g_w25, g_k26, g_l26, g_p37, g_a26, g_w26, g_k27, g_l27, g_p38, g_a27, g_w27, g_k28, g_l28, g_p40, g_a28, g_w28, g_k29, g_l29, g_p41, g_a29, g_w29, g_k30, g_l30, g_p42, g_a30, g_w30, g_k31, g_l31, g_p43, g_a31, g_w31, g_k32, g_l32, g_p44, g_a32, g_w32, g_k33, g_l33, g_p45, g_a33, g_w33, g_k34, g_l34, g_p46, g_a34, g_w34, g_f0, g_s0, g_f1, g_s1, g_f2, g_s2, g_f3, g_s3, g_f5, g_s5, g_f6, g_s6, g_f7, g_s7, g_f8, g_s8, g_f9, g_s9, g_f23, g_s23, g_f25, g_s25, g_f28, g_s28, g_f39, g_s39, g_f47, g_s47, gr_ui_eq, gr_ui_2, gr_ul_eq, gr_ul_1, gr_ui_no, gr_ui_ni, gr_ul_no, gr_ul_ni, b28, c2, i130, b16, b17]
      exact w
  have w := cl n 0 (by omega)
  show gm_W E d 46 0 [.ref m, gm_u, gm_u, gm_u, gm_u, gm_u, gm_u] [] (gr_H h m t) Q
  simp only [r46_0, r46_0n, r46_1, r46_4, r46_7, r46_7n, r46_8, r46_11, r46_12, r46_12n, r46_13, r46_16, r46_17, r46_17n, r46_18, r46_21, r46_22, r46_22n, r46_23, r46_26, r46_27, r46_27n, r46_28, r46_31, r46_33, r46_33n, r46_34, r46_37, r46_39, r46_40, r46_44, r46_44n, r46_45, r46_48, r46_51, r46_51n, r46_52, r46_55, r46_57, r46_57n, r46_58, r46_61, r46_63, r46_64, r46_65, r46_65n, r46_66, r46_69, r46_71, r46_71n, r46_72, r46_75, r46_77, r46_78, r46_79, r46_82, r46_85, r46_85n, r46_86, r46_87, r46_90, r46_90n, r46_91, r46_92, r46_95, r46_95n, r46_96, r46_97, r46_98, r46_99, r46_104, r46_107, r46_110, r46_110n, r46_111, r46_114, r46_117, r46_117n, r46_121, r46_124, r46_124n, r46_125, r46_128, r46_131, r46_131n, r46_132, r46_135, r46_136, r46_136n, r46_137, r46_138, r46_141, r46_141n, r46_142, r46_143, r46_146, r46_146n, r46_147, r46_148, r46_151, r46_151n, r46_152, r46_154, r46_157, r46_157n, r46_158, r46_160, r46_163, r46_164, r46_166, r46_168, r46_168n, r46_169, r46_172, r46_175, r46_175n, r46_176, r46_179, r46_181, r46_181n, r46_182, r46_185, r46_187, r46_188, r46_189, r46_189n, r46_190, r46_193, r46_195, r46_195n, r46_196, r46_199, r46_201, r46_202, r46_203, r46_206, r46_209, r46_209n, r46_210, r46_213, r46_215, r46_218, r46_218n, r46_219, r46_219n, r46_220, r46_223, r46_226, r46_226n, r46_227, r46_230, i32_10, reduceIte, gm_cmp1, gm_cmp3, gm_cmp4, gm_kd_sf, gm_ln_sf, gm_sf_1, gm_sf_2, gm_nw_1, gm_nw_2, gm_k_int, gm_k_ref, gm_k_null, gm_k_u, gm_k_long, and_true, true_and, true_or, or_true, or_false, false_or, and_self, or_self, if_true, if_false, List.map_nil, List.map_cons, List.sum_nil, List.sum_cons, Nat.zero_le, Option.toList_some, Option.toList_none, List.cons_append, List.nil_append, ne_eq, not_false_eq_true, not_true_eq_false, nI_1, nI_add, Value.category, Nat.reduceAdd, Nat.reduceMod, Nat.reduceLeDiff, Nat.reduceLT, Nat.reduceEqDiff, Nat.reducePow, Nat.le_refl, Nat.add_left_cancel_iff, Nat.add_eq_left, Nat.left_eq_add, Nat.add_zero, g_k0, g_k1, g_l1, g_p4, g_a1, g_w1, g_k2, g_l2, g_p10, g_a2, g_w2, g_k3, g_l3, g_p11, g_a3, g_w3, g_k4, g_l4, g_p12, g_a4, g_w4, g_k5, g_l5, g_p13, g_a5, g_w5, g_k6, g_l6, g_p14, g_a6, g_w6, g_k7, g_l7, g_p15, g_a7, g_w7, g_k8, g_l8, g_p16, g_a8, g_w8, g_k9, g_l9, g_p17, g_a9, g_w9, g_k10, g_l10, g_p18, g_a10, g_w10, g_k11, g_l11, g_p19, g_a11, g_w11, g_k12, g_l12, g_p20, g_a12, g_w12, g_k13, g_l13, g_p21, g_a13, g_w13, g_k14, g_l14, g_p22, g_a14, g_w14, g_k15, g_l15, g_p24, g_a15, g_w15, g_k16, g_l16, g_p26, g_a16, g_w16, g_k17, g_l17, g_p27, g_a17, g_w17, g_k18, g_l18, g_p29, g_a18, g_w18, g_k19, g_l19, g_p30, g_a19, g_w19, g_k20, g_l20, g_p31, g_a20, g_w20, g_k21, g_l21, g_p32, g_a21, g_w21, g_k22, g_l22, g_p33, g_a22, g_w22, g_k23, g_l23, g_p34, g_a23, g_w23, g_k24, g_l24, g_p35, g_a24, g_w24, g_k25, g_l25, g_p36, g_a25, g_w25, g_k26, g_l26, g_p37, g_a26, g_w26, g_k27, g_l27, g_p38, g_a27, g_w27, g_k28, g_l28, g_p40, g_a28, g_w28, g_k29, g_l29, g_p41, g_a29, g_w29, g_k30, g_l30, g_p42, g_a30, g_w30, g_k31, g_l31, g_p43, g_a31, g_w31, g_k32, g_l32, g_p44, g_a32, g_w32, g_k33, g_l33, g_p45, g_a33, g_w33, g_k34, g_l34, g_p46, g_a34, g_w34, g_f0, g_s0, g_f1, g_s1, g_f2, g_s2, g_f3, g_s3, g_f5, g_s5, g_f6, g_s6, g_f7, g_s7, g_f8, g_s8, g_f9, g_s9, g_f23, g_s23, g_f25, g_s25, g_f28, g_s28, g_f39, g_s39, g_f47, g_s47, gr_ui_eq, gr_ui_2, gr_ul_eq, gr_ul_1, gr_ui_no, gr_ui_ni, gr_ul_no, gr_ul_ni, l7, Y.pl, Y.pp.1, Y.u, h28, Y.n]
  exact w
theorem M_read (hK : gs_kor K) (hd : 20 ≤ d) (X : gr_X t K s lf) : gm_Ca E d 46 [.ref m] (gr_H h m t) (fun r h' => r = .inl (some (.int (gs_read K s lf).1)) ∧ ∃ t', h' = gr_H h m t' ∧ gr_X t' K (gs_read K s lf).2.1 (gs_read K s lf).2.2) := by
  by_cases hl : lf = 0
  · subst hl
    exact M_read1 hK hd X
  · exact M_readF X hl
end NY
/-! THE TWO READERS: the class's flags and the reference's. A rest without a byte ends with another fault; what an array of references holds at first is never seen. -/
def gs_eR (e e' : Int32) : Prop := e' = e ∨ (e = -3 ∧ e' = -8)
/-- heaps alike but for values D of arrays of references -/
def gs_hR (D : Nat → Nat → Prop) (H H' : List gs_O) : Prop := H'.length = H.length ∧ ∀ o w w', H[o]? = some w → H'[o]? = some w' → w'.1 = w.1 ∧ w'.2.1 = w.2.1 ∧ w'.2.2.2 = w.2.2.2 ∧ w'.2.2.1.length = w.2.2.1.length ∧ (w.1 ≠ 3 → w'.2.2.1 = w.2.2.1) ∧ ∀ i, ¬ D o i → w'.2.2.1[i]? = w.2.2.1[i]?
def gs_sR (D : Nat → Nat → Prop) (s s' : gs_S) : Prop := s'.1 = s.1 ∧ s'.2.2 = s.2.2 ∧ gs_hR D (gs_hp s) (gs_hp s')
def gs_rR {α : Type} (D : Nat → Nat → Prop) : Except Int32 (α × gs_S) → Except Int32 (α × gs_S) → Prop
  | .ok q, .ok q' => q'.1 = q.1 ∧ gs_sR D q.2 q'.2
  | .error e, .error e' => gs_eR e e'
  | _, _ => False
def gs_mR {α : Type} (D : Nat → Nat → Prop) (m m' : gs_M α) : Prop := ∀ s s', gs_sR D s s' → gs_rR D (m s) (m' s')
section NZ
variable {α β : Type} {D : Nat → Nat → Prop} {K : gs_K} {s s' : gs_S} {rc rc' : gs_M Int32} {d : Nat}
theorem gs_eR.refl {e : Int32} : gs_eR e e := Or.inl rfl
theorem gs_rR.er {e : Int32} : gs_rR (α := α) D (.error e) (.error e) := gs_eR.refl
theorem gs_mR.b {m m' : gs_M α} {k k' : α → gs_M β} (a : gs_mR D m m') (b : ∀ x, gs_mR D (k x) (k' x)) : gs_mR D (gs_b m k) (gs_b m' k') := by
  intro s s' h
  have q := a s s' h
  unfold gs_b
  cases e : m s with
  | error x =>
    rw [e] at q
    cases e' : m' s' with
    | error y => rw [e'] at q; exact q
    | ok y => rw [e'] at q; exact q.elim
  | ok x =>
    rw [e] at q
    cases e' : m' s' with
    | error y => rw [e'] at q; exact q.elim
    | ok y =>
      rw [e'] at q
      dsimp only
      rw [q.1]
      exact b x.1 _ _ q.2
theorem gs_mR.r {x : α} : gs_mR D (gs_r x) (gs_r x) := fun _ _ h => ⟨rfl, h⟩
theorem gs_mR.x {e : Int32} : gs_mR (α := α) D (gs_x e) (gs_x e) := fun _ _ _ => gs_eR.refl
theorem gs_mR.g {k k' : gs_S → gs_M β} (b : ∀ s s', gs_sR D s s' → gs_rR D (k s s) (k' s' s')) : gs_mR D (gs_b gs_g k) (gs_b gs_g k') := fun s s' h => b s s' h
theorem gs_mR.ite {p : Prop} [Decidable p] {m m' k k' : gs_M α} (a : p → gs_mR D m m') (b : ¬ p → gs_mR D k k') : gs_mR D (if p then m else k) (if p then m' else k') := by
  by_cases h : p
  · rw [if_pos h, if_pos h]; exact a h
  · rw [if_neg h, if_neg h]; exact b h
theorem gs_sR.pl (h : gs_sR D s s') : gs_pl s' = gs_pl s := h.1
theorem gs_sR.hs (h : gs_sR D s s') : gs_hs s' = gs_hs s := by unfold gs_hs; rw [h.2.1]
theorem gs_sR.f1 (h : gs_sR D s s') : gs_f1 s' = gs_f1 s := by unfold gs_f1; rw [h.2.1]
theorem gs_sR.size (h : gs_sR D s s') : gs_size s' = gs_size s := by unfold gs_size; rw [h.hs, h.f1]
theorem gs_sR.p {k : Nat} (h : gs_sR D s s') : gs_sR D (gs_p k s) (gs_p k s') := ⟨rfl, h.2.1, h.2.2⟩
theorem gs_hR.refl {H : List gs_O} : gs_hR D H H := ⟨rfl, fun o w w' h h' => by rw [h] at h'; cases h'; exact ⟨rfl, rfl, rfl, rfl, fun _ => rfl, fun _ _ => rfl⟩⟩
theorem gs_sR.refl : gs_sR D s s := ⟨rfl, rfl, gs_hR.refl⟩
theorem gs_hR.at {H H' : List gs_O} {o : Nat} (h : gs_hR D H H') : (H[o]? = none ∧ H'[o]? = none) ∨ ∃ w w', H[o]? = some w ∧ H'[o]? = some w' := by
  rcases Nat.lt_or_ge o H.length with z | z
  · exact Or.inr ⟨_, _, List.getElem?_eq_getElem z, List.getElem?_eq_getElem (by rw [h.1]; exact z)⟩
  · exact Or.inl ⟨List.getElem?_eq_none z, List.getElem?_eq_none (by rw [h.1]; exact z)⟩
theorem gs_sR.sort {v : Int32} (h : gs_sR D s s') : gs_sort s' v = gs_sort s v := by
  unfold gs_sort
  by_cases c : v < 0
  · rw [if_pos c, if_pos c]
  · rw [if_neg c, if_neg c]
    by_cases l : v.toNatClampNeg < (gs_hp s).length
    · have l' : v.toNatClampNeg < (gs_hp s').length := by rw [h.2.2.1]; exact l
      rw [dif_pos l, dif_pos l']
      exact (h.2.2.2 _ _ _ (List.getElem?_eq_getElem l) (List.getElem?_eq_getElem l')).1
    · rw [dif_neg l, dif_neg (by rw [h.2.2.1]; exact l)]
theorem gs_sR.cname {v : Int32} (h : gs_sR D s s') : gs_cname s' v = gs_cname s v := by
  unfold gs_cname
  by_cases c : v < 0
  · rw [if_pos c, if_pos c]
  · rw [if_neg c, if_neg c]
    rcases h.2.2.at (o := v.toNatClampNeg) with ⟨e1, e2⟩ | ⟨w, w', e1, e2⟩
    · rw [e1, e2]
    · rw [e1, e2]
      obtain ⟨h1, h2, h3, h4, h5, h6⟩ := h.2.2.2 _ _ _ e1 e2
      dsimp only
      rw [h1]
      by_cases c1 : w.1 = 1
      · rw [if_pos c1, if_pos c1, h5 (by rw [c1]; decide)]
      · rw [if_neg c1, if_neg c1]
theorem gs_mR_nxt {k : Nat} : gs_mR D (gs_nxt K k) (gs_nxt K k) := by
  intro s s' h
  unfold gs_nxt
  rw [h.pl]
  by_cases c : gs_n K - gs_pl s < k
  · rw [if_pos c, if_pos c]; exact gs_rR.er
  · rw [if_neg c, if_neg c]; exact ⟨rfl, h.p⟩
theorem gs_mR_sgn : ∀ k, gs_mR D (gs_sgn K k) (gs_sgn K k)
  | 0 => gs_mR.r
  | k + 1 => by
    intro s s' h
    show gs_rR D (if gs_n K ≤ gs_pl s then _ else if gs_sb K (gs_pl s) ≤ 0 then _ else _) (if gs_n K ≤ gs_pl s' then _ else if gs_sb K (gs_pl s') ≤ 0 then _ else _)
    rw [h.pl]
    by_cases c : gs_n K ≤ gs_pl s
    · rw [if_pos c, if_pos c]; exact gs_rR.er
    · rw [if_neg c, if_neg c]
      by_cases c2 : gs_sb K (gs_pl s) ≤ 0
      · rw [if_pos c2, if_pos c2]; exact gs_rR.er
      · rw [if_neg c2, if_neg c2]; exact gs_mR_sgn k _ _ h.p
theorem gs_mR_u1 : gs_mR D (gs_u1 K) (gs_u1 K) := gs_mR_nxt.b fun _ => gs_mR.r
theorem gs_mR_u4 : gs_mR D (gs_u4 K) (gs_u4 K) := gs_mR_nxt.b fun _ => gs_mR.r
theorem gs_sgn_ref : ∀ (k : Nat), gs_sgn (gs_ref1 K) k = gs_sgn K k
  | 0 => rfl
  | k + 1 => funext fun s => by
    show (if gs_n K ≤ gs_pl s then .error (-3) else if gs_sb K (gs_pl s) ≤ 0 then .error (-4) else gs_sgn (gs_ref1 K) k (gs_p (gs_pl s + 1) s)) = (if gs_n K ≤ gs_pl s then .error (-3) else if gs_sb K (gs_pl s) ≤ 0 then .error (-4) else gs_sgn K k (gs_p (gs_pl s + 1) s))
    rw [gs_sgn_ref k]
theorem gs_num_ref {a : Nat} : ∀ (k : Nat), gs_num (gs_ref1 K) a k = gs_num K a k
  | 0 => rfl
  | k + 1 => by
    show gs_num (gs_ref1 K) a k <<< 8 ||| gs_ub K (a + k) = gs_num K a k <<< 8 ||| gs_ub K (a + k)
    rw [gs_num_ref k]
theorem gs_nxt_ref {k : Nat} : gs_nxt (gs_ref1 K) k = gs_nxt K k := funext fun s => by
  unfold gs_nxt
  rw [gs_num_ref]
  rfl
theorem gs_prim_ref {t : Int32} : gs_prim (gs_ref1 K) t = gs_prim K t := by
  unfold gs_prim
  rw [gs_nxt_ref]
theorem gs_utf_ref : gs_utf (gs_ref1 K) = gs_utf K := by
  unfold gs_utf
  rw [gs_nxt_ref]
  simp only [gs_sgn_ref]
theorem gs_mR_utf : gs_mR D (gs_utf K) (gs_utf K) := gs_mR_nxt.b fun v => gs_mR.g fun s s' h => by
  have q : gs_mR D (gs_b (gs_sgn K v.toInt32.toNatClampNeg) fun _ => gs_r (gs_pl s)) (gs_b (gs_sgn K v.toInt32.toNatClampNeg) fun _ => gs_r (gs_pl s)) := (gs_mR_sgn _).b fun _ => gs_mR.r
  have := q s s' h
  rw [h.pl]
  exact this
theorem gs_mR_blk : gs_mR D (gs_blk K) (gs_blk K) := gs_mR_u1.b fun t => (gs_mR.ite (fun _ => gs_mR_u1) (fun _ => gs_mR_u4)).b fun n s s' h => by
  show gs_rR D (if n < 0 then _ else if gs_n K - gs_pl s < n.toNatClampNeg then _ else _) (if n < 0 then _ else if gs_n K - gs_pl s' < n.toNatClampNeg then _ else _)
  rw [h.pl]
  by_cases c : n < 0
  · rw [if_pos c, if_pos c]; exact gs_rR.er
  · rw [if_neg c, if_neg c]
    by_cases c2 : gs_n K - gs_pl s < n.toNatClampNeg
    · rw [if_pos c2, if_pos c2]; exact gs_rR.er
    · rw [if_neg c2, if_neg c2]; exact ⟨rfl, h.p⟩
theorem gs_mR_prim {t : Int32} : gs_mR D (gs_prim K t) (gs_prim K t) := gs_mR_nxt.b fun _ => gs_mR.r
theorem gs_mR_room {dp : Nat} : gs_mR D (gs_room dp) (gs_room dp) := by
  intro s s' h
  unfold gs_room
  rw [h.size]
  by_cases c : 8 < dp ∨ 60 < gs_size s
  · rw [if_pos c, if_pos c]; exact gs_rR.er
  · rw [if_neg c, if_neg c]; exact ⟨rfl, h⟩
theorem gs_mR_lim {l : gs_L} {dp : Nat} {n : Int32} : gs_mR D (gs_lim K l dp n) (gs_lim (gs_ref1 K) l dp n) := by
  intro s s' h
  unfold gs_lim
  rw [h.size, h.pl]
  show gs_rR D (if ((gs_own l).bind (gs_cls K)).any gs_bar = true ∨ K.1.1 < nI dp ∨ K.1.2.1 < nI (gs_size s) ∨ K.1.2.2.1 < n ∨ K.1.2.2.2 < nI (gs_pl s) then _ else _) (if ((gs_own l).bind (gs_cls K)).any gs_bar = true ∨ K.1.1 < nI dp ∨ K.1.2.1 < nI (gs_size s) ∨ K.1.2.2.1 < n ∨ K.1.2.2.2 < nI (gs_pl s) then _ else _)
  by_cases c : ((gs_own l).bind (gs_cls K)).any gs_bar = true ∨ K.1.1 < nI dp ∨ K.1.2.1 < nI (gs_size s) ∨ K.1.2.2.1 < n ∨ K.1.2.2.2 < nI (gs_pl s)
  · rw [if_pos c, if_pos c]; exact gs_rR.er
  · rw [if_neg c, if_neg c]; exact ⟨rfl, h⟩
theorem gs_mR_ent : gs_mR D (gs_ent K) (gs_ent K) := gs_mR_u4.b fun i s s' h => by
  show gs_rR D (if i - 8257536 < 0 then _ else if nI (gs_size s) ≤ i - 8257536 then _ else _) (if i - 8257536 < 0 then _ else if nI (gs_size s') ≤ i - 8257536 then _ else _)
  rw [h.size]
  by_cases c : i - 8257536 < 0
  · rw [if_pos c, if_pos c]; exact gs_rR.er
  · rw [if_neg c, if_neg c]
    by_cases c2 : nI (gs_size s) ≤ i - 8257536
    · rw [if_pos c2, if_pos c2]; exact gs_rR.er
    · rw [if_neg c2, if_neg c2]; exact ⟨by rw [h.f1], h⟩
theorem gs_mR_ref : gs_mR D (gs_ref K) (gs_ref K) := gs_mR_ent.b fun e s s' h => by
  show gs_rR D (if ((gs_hs s).getD e (-1, [])).1 = -1 then _ else _) (if ((gs_hs s').getD e (-1, [])).1 = -1 then _ else _)
  rw [h.hs]
  by_cases c : ((gs_hs s).getD e (-1, [])).1 = -1
  · rw [if_pos c, if_pos c]; exact gs_rR.er
  · rw [if_neg c, if_neg c]; exact ⟨rfl, h⟩
theorem gs_hR.app {D' : Nat → Nat → Prop} {H H' : List gs_O} {w w' : gs_O} (h : gs_hR D H H') (hD : ∀ x i, x < H.length → ¬ D' x i → ¬ D x i) (g : w'.1 = w.1 ∧ w'.2.1 = w.2.1 ∧ w'.2.2.2 = w.2.2.2 ∧ w'.2.2.1.length = w.2.2.1.length ∧ (w.1 ≠ 3 → w'.2.2.1 = w.2.2.1) ∧ ∀ i, ¬ D' H.length i → w'.2.2.1[i]? = w.2.2.1[i]?) : gs_hR D' (H ++ [w]) (H' ++ [w']) := by
  refine ⟨by rw [List.length_append, List.length_append, h.1]; rfl, fun o x x' e e' => ?_⟩
  rcases gs_app e with ⟨z, y⟩ | ⟨j, z, y⟩
  · rw [List.getElem?_append_left (by rw [h.1]; exact z)] at e'
    obtain ⟨h1, h2, h3, h4, h5, h6⟩ := h.2 o x x' y e'
    exact ⟨h1, h2, h3, h4, h5, fun i hi => h6 i (hD o i z hi)⟩
  · have j0 : j = 0 := by
      have := (List.getElem?_eq_some_iff.mp y).1
      simp at this
      exact this
    subst j0
    rw [z, Nat.add_zero, ← h.1, List.getElem?_append_right (Nat.le_refl _), Nat.sub_self] at e'
    have e1 : w = x := by simpa using y
    have e2 : w' = x' := by simpa using e'
    subst e1 e2
    rw [z, Nat.add_zero]
    exact g
theorem gs_mR_addT {o : gs_O} : gs_mR D (gs_addT o) (gs_addT o) := by
  intro s s' h
  unfold gs_addT
  rw [h.2.2.1]
  by_cases c : 234 ≤ (gs_hp s).length
  · rw [if_pos c, if_pos c]; exact gs_rR.er
  · rw [if_neg c, if_neg c]
    exact ⟨rfl, h.1, h.2.1, h.2.2.app (fun _ _ _ z => z) ⟨rfl, rfl, rfl, rfl, fun _ => rfl, fun _ _ => rfl⟩⟩
theorem gs_mR_addE {v : Int32} : gs_mR D (gs_addE v) (gs_addE v) := by
  intro s s' h
  unfold gs_addE
  rw [h.hs, h.f1]
  by_cases c : 234 ≤ (gs_hs s).length
  · rw [if_pos c, if_pos c]; exact gs_rR.er
  · rw [if_neg c, if_neg c]; exact ⟨rfl, h.1, rfl, h.2.2⟩
theorem gs_mR_setE {e : Nat} {v : Int32} : gs_mR D (gs_setE e v) (gs_setE e v) := fun s s' h => ⟨rfl, h.1, by show ((gs_hs s').modify e _, gs_f1 s') = ((gs_hs s).modify e _, gs_f1 s); rw [h.hs, h.f1], h.2.2⟩
theorem gs_mR_setD {e : Nat} {L : List gs_L} : gs_mR D (gs_setD e L) (gs_setD e L) := fun s s' h => ⟨rfl, h.1, by show ((gs_hs s').modify e _, gs_f1 s') = ((gs_hs s).modify e _, gs_f1 s); rw [h.hs, h.f1], h.2.2⟩
/-- an object changed on both sides -/
theorem gs_hR.mod {D' : Nat → Nat → Prop} {H H' : List gs_O} {o : Nat} {f : gs_O → gs_O} (h : gs_hR D H H') (hD : ∀ x i, x ≠ o → ¬ D' x i → ¬ D x i) (g : ∀ w w', H[o]? = some w → H'[o]? = some w' → (f w').1 = (f w).1 ∧ (f w').2.1 = (f w).2.1 ∧ (f w').2.2.2 = (f w).2.2.2 ∧ (f w').2.2.1.length = (f w).2.2.1.length ∧ ((f w).1 ≠ 3 → (f w').2.2.1 = (f w).2.2.1) ∧ ∀ i, ¬ D' o i → (f w').2.2.1[i]? = (f w).2.2.1[i]?) : gs_hR D' (H.modify o f) (H'.modify o f) := by
  refine ⟨by rw [List.length_modify, List.length_modify]; exact h.1, fun x w w' e e' => ?_⟩
  rw [List.getElem?_modify] at e e'
  rcases h.at (o := x) with ⟨e1, e2⟩ | ⟨y, y', e1, e2⟩
  · rw [e1] at e; cases e
  · rw [e1] at e
    rw [e2] at e'
    by_cases c : o = x
    · subst c
      simp at e e'
      subst e e'
      exact g y y' e1 e2
    · simp [c] at e e'
      subst e e'
      obtain ⟨h1, h2, h3, h4, h5, h6⟩ := h.2 x y y' e1 e2
      exact ⟨h1, h2, h3, h4, h5, fun i hi => h6 i (hD x i (Ne.symm c) hi)⟩
theorem gs_mR_val {o j : Nat} {v : Int64} : gs_mR D (gs_mod o (fun ob => (ob.1, ob.2.1, ob.2.2.1.set j v, ob.2.2.2))) (gs_mod o (fun ob => (ob.1, ob.2.1, ob.2.2.1.set j v, ob.2.2.2))) := fun s s' h => ⟨rfl, h.1, h.2.1, h.2.2.mod (fun _ _ _ z => z) (fun w w' e e' => by
  obtain ⟨h1, h2, h3, h4, h5, h6⟩ := h.2.2.2 o w w' e e'
  refine ⟨h1, h2, h3, by show (w'.2.2.1.set j v).length = (w.2.2.1.set j v).length; rw [List.length_set, List.length_set, h4], fun z => by show w'.2.2.1.set j v = w.2.2.1.set j v; rw [h5 z], fun i hi => ?_⟩
  show (w'.2.2.1.set j v)[i]? = (w.2.2.1.set j v)[i]?
  rw [List.getElem?_set, List.getElem?_set, h4, h6 i hi])⟩
theorem gs_mR_extra {o : Nat} : gs_mR D (gs_extra K o) (gs_extra K o) := by
  intro s s' h
  unfold gs_extra
  rw [h.pl]
  split
  · exact ⟨rfl, h⟩
  · split
    · exact ⟨rfl, h⟩
    · split
      · exact ⟨rfl, h⟩
      · refine ⟨rfl, h.1, h.2.1, h.2.2.mod (fun _ _ _ z => z) (fun w w' e e' => ?_)⟩
        obtain ⟨h1, h2, h3, h4, h5, h6⟩ := h.2.2.2 o w w' e e'
        exact ⟨h1, h2, by show (w'.2.2.2.1, _) = (w.2.2.2.1, _); rw [h3], h4, h5, h6⟩
theorem gs_up_ref : ∀ (k : Nat) (c : Option Nat), gs_up (gs_ref1 K) k c = gs_up K k c
  | 0, _ => rfl
  | k + 1, none => rfl
  | k + 1, some c => by
    show (match gs_cls K c with
      | none => []
      | some C => (c, C) :: gs_up (gs_ref1 K) k (gs_sup C)) = (match gs_cls K c with
      | none => []
      | some C => (c, C) :: gs_up K k (gs_sup C))
    cases gs_cls K c with
    | none => rfl
    | some C => dsimp only; rw [gs_up_ref k (gs_sup C)]
theorem gs_chain_ref {c : Option Nat} : gs_chain (gs_ref1 K) c = gs_chain K c := gs_up_ref 6 c
theorem gs_slots_ref {c : Option Nat} : gs_slots (gs_ref1 K) c = gs_slots K c := by unfold gs_slots; rw [gs_chain_ref]
theorem gs_first_ref {C : gs_C} : gs_first (gs_ref1 K) C = gs_first K C := gs_slots_ref
theorem gs_slot0_ref {c : Option Nat} : gs_slot0 (gs_ref1 K) c = gs_slot0 K c := by unfold gs_slot0; rw [gs_chain_ref]
theorem gs_inch_ref {c c' : Option Nat} : gs_inch (gs_ref1 K) c c' = gs_inch K c c' := by unfold gs_inch; rw [gs_chain_ref]
theorem gs_slot_ref {tg : Option Nat} {q : Int32 × Int32} : gs_slot (gs_ref1 K) tg q = gs_slot K tg q := by
  unfold gs_slot
  show (match tg.bind (gs_cls K) with
    | none => none
    | some C => match gs_ix (gs_fs C) q.1 with
      | none => none
      | some j => if ((gs_fs C).getD j (0, 0)).2 = q.2 then some (gs_first (gs_ref1 K) C + j) else none) = _
  cases tg.bind (gs_cls K) with
  | none => rfl
  | some C =>
    dsimp only
    rw [gs_first_ref]
    rfl
theorem gs_mR_wrt {tg : Option Nat} {o : Nat} {q : Int32 × Int32} {v : Int64} : gs_mR D (gs_wrt K tg o q v) (gs_wrt (gs_ref1 K) tg o q v) := by
  intro s s' h
  unfold gs_wrt
  rw [gs_slot_ref]
  cases gs_slot K tg q with
  | none => exact ⟨rfl, h⟩
  | some j =>
    dsimp only
    rw [h.sort]
    split
    · exact gs_rR.er
    · exact gs_mR_val s s' h
theorem gs_mR_only {c : Nat} {nm : Int32} : gs_mR D (gs_only c nm) (gs_only c nm) := by
  intro s s' h
  have fe : (gs_hp s').findIdx? (gs_pd c nm) = (gs_hp s).findIdx? (gs_pd c nm) := by
    have key : ∀ i : Nat, ((gs_hp s')[i]?).map (gs_pd c nm) = ((gs_hp s)[i]?).map (gs_pd c nm) := fun i => by
      rcases h.2.2.at (o := i) with ⟨e1, e2⟩ | ⟨w, w', e1, e2⟩
      · rw [e1, e2]
      · obtain ⟨h1, h2, h3, -⟩ := h.2.2.2 i w w' e1 e2
        rw [e1, e2]
        show some (gs_pd c nm w') = some (gs_pd c nm w)
        unfold gs_pd
        rw [h1, h2, h3]
    have lm : (gs_hp s').map (gs_pd c nm) = (gs_hp s).map (gs_pd c nm) := by
      refine List.ext_getElem? (fun i => ?_)
      rw [List.getElem?_map, List.getElem?_map]
      exact key i
    have q : ∀ H : List gs_O, H.findIdx? (gs_pd c nm) = (H.map (gs_pd c nm)).findIdx? id := fun H => by rw [List.findIdx?_map]; rfl
    rw [q, q, lm]
  rw [gs_only_c, gs_only_c, fe]
  cases (gs_hp s).findIdx? (gs_pd c nm) with
  | none => exact gs_mR_addT s s' h
  | some k => exact ⟨rfl, h⟩
theorem gs_hR.mono {D' : Nat → Nat → Prop} {H H' : List gs_O} (h : gs_hR D H H') (hD : ∀ x i, D x i → D' x i) : gs_hR D' H H' := ⟨h.1, fun o w w' e e' => by
  obtain ⟨h1, h2, h3, h4, h5, h6⟩ := h.2 o w w' e e'
  exact ⟨h1, h2, h3, h4, h5, fun i hi => h6 i (fun z => hi (hD o i z))⟩⟩
theorem gs_rR.mono {D' : Nat → Nat → Prop} {q q' : Except Int32 (α × gs_S)} (h : gs_rR D q q') (hD : ∀ x i, D x i → D' x i) : gs_rR D' q q' := by
  match q, q', h with
  | .ok _, .ok _, h => exact ⟨h.1, h.2.1, h.2.2.1, h.2.2.2.mono hD⟩
  | .error _, .error _, h => exact h
/-- the reads one deeper, alike; the reference's, where no byte is left -/
def gs_cR (K : gs_K) (rc rc' : gs_M Int32) : Prop := (∀ D, gs_mR D rc rc') ∧ ∀ s, gs_n K ≤ gs_pl s → rc' s = .error (-3) ∨ rc' s = .error (-8)
theorem gs_mR_text0 : gs_mR D (gs_text K) (gs_text K) := gs_mR_addE.b fun e => gs_mR_utf.b fun a => gs_mR.g fun s s' h => by
  rw [h.pl]
  exact (gs_mR_addT.b fun o => gs_mR_setE.b fun _ => gs_mR.r) s s' h
theorem gs_text_ref : gs_text (gs_ref1 K) = gs_text K := by
  unfold gs_text
  rw [gs_utf_ref]
  rfl
theorem gs_mR_text : gs_mR D (gs_text K) (gs_text (gs_ref1 K)) := by
  rw [gs_text_ref]
  exact gs_mR_text0
theorem gs_mR_rest (hK : gs_rst K = false) (C : gs_cR K rc rc') : ∀ k, gs_mR D (gs_rest K rc k) (gs_rest (gs_ref1 K) rc' k)
  | 0 => gs_mR.r
  | k + 1 => by
    intro s s' h
    show gs_rR D (if gs_n K ≤ gs_pl s then (if gs_rst K = true then gs_b rc (fun _ => gs_rest K rc k) s else .error (-3)) else if gs_sb K (gs_pl s) = 120 then .ok ((), gs_p (gs_pl s + 1) s) else if gs_isB (gs_sb K (gs_pl s)) = true then gs_b (gs_blk K) (fun _ => gs_rest K rc k) s else gs_b rc (fun _ => gs_rest K rc k) s)
      (if gs_n K ≤ gs_pl s' then (if gs_rst (gs_ref1 K) = true then gs_b rc' (fun _ => gs_rest (gs_ref1 K) rc' k) s' else .error (-3)) else if gs_sb K (gs_pl s') = 120 then .ok ((), gs_p (gs_pl s' + 1) s') else if gs_isB (gs_sb K (gs_pl s')) = true then gs_b (gs_blk K) (fun _ => gs_rest (gs_ref1 K) rc' k) s' else gs_b rc' (fun _ => gs_rest (gs_ref1 K) rc' k) s')
    rw [h.pl]
    by_cases c : gs_n K ≤ gs_pl s
    · rw [if_pos c, if_pos c, if_neg (by rw [hK]; decide), if_pos (show gs_rst (gs_ref1 K) = true from rfl)]
      unfold gs_b
      rcases C.2 s' (by rw [h.pl]; exact c) with e | e
      · rw [e]; exact gs_rR.er
      · rw [e]; exact Or.inr ⟨rfl, rfl⟩
    · rw [if_neg c, if_neg c]
      by_cases c2 : gs_sb K (gs_pl s) = 120
      · rw [if_pos c2, if_pos c2]; exact ⟨rfl, h.p⟩
      · rw [if_neg c2, if_neg c2]
        by_cases c3 : gs_isB (gs_sb K (gs_pl s)) = true
        · rw [if_pos c3, if_pos c3]
          exact (gs_mR_blk.b fun _ => gs_mR_rest hK C k) s s' h
        · rw [if_neg c3, if_neg c3]
          exact ((C.1 D).b fun _ => gs_mR_rest hK C k) s s' h
theorem gs_mR_flds (C : gs_cR K rc rc') : ∀ k fs, gs_mR D (gs_flds K rc k fs) (gs_flds (gs_ref1 K) rc' k fs)
  | 0, _ => gs_mR.r
  | k + 1, fs => by
    show gs_mR D (gs_b (gs_u1 K) _) (gs_b (gs_u1 K) _)
    refine gs_mR_u1.b fun b => ?_
    cases gs_types.findIdx? (· == b) with
    | none => exact gs_mR.x
    | some t =>
      dsimp only
      rw [gs_utf_ref]
      refine (gs_mR_utf (K := K)).b fun a => gs_mR.g fun s s' h => ?_
      rw [h.pl]
      refine (gs_mR.ite (fun _ => gs_mR_flds C k _) (fun _ => (C.1 D).b fun v s1 s1' h1 => ?_)) s s' h
      rw [h1.sort]
      by_cases c : gs_sort s1 v = 1
      · rw [if_pos c, if_pos c]; exact gs_mR_flds C k _ s1 s1' h1
      · rw [if_neg c, if_neg c]; exact gs_rR.er
theorem gs_mR_flg {id : Int64} : gs_mR D (gs_flg K id) (gs_flg K id) := gs_mR_u1.b fun fl s s' h => by
  by_cases c : (fl &&& 2 ≠ 0 ∧ fl &&& 4 ≠ 0) ∨ (fl &&& 16 ≠ 0 ∧ id ≠ 0)
  · rw [if_pos c, if_pos c]; exact gs_rR.er
  · rw [if_neg c, if_neg c]; exact ⟨rfl, h⟩
theorem gs_mR_strm {fl : Int32} (C : gs_cR K rc rc') : gs_mR D (gs_strm K rc fl) (gs_strm (gs_ref1 K) rc' fl) := by
  show gs_mR D (gs_b (gs_nxt K 2) _) (gs_b (gs_nxt K 2) _)
  refine gs_mR_nxt.b fun c => gs_mR.ite (fun _ => gs_mR.x) (fun _ => (gs_mR_flds C _ _).b fun fs => gs_mR.ite (fun _ => gs_mR.x) (fun _ => gs_mR.r))
theorem gs_mR_mch {l : gs_L} : gs_mR D (gs_mch K l) (gs_mch (gs_ref1 K) l) := by
  intro s s' h
  show gs_rR D (gs_mch K l s) (gs_mch K l s')
  unfold gs_mch
  by_cases c : gs_fl l &&& 4 ≠ 0
  · rw [if_pos c, if_pos c]; exact gs_rR.er
  · rw [if_neg c, if_neg c]
    by_cases c2 : ((gs_find K (gs_nf l) (gs_nl l)).bind (gs_cls K)).any (fun c => !gs_fits l c) = true
    · rw [if_pos c2, if_pos c2]; exact gs_rR.er
    · rw [if_neg c2, if_neg c2]; exact ⟨rfl, h⟩
theorem gs_mR_dsc1 {up up' : Option (gs_M (List gs_L))} (hK : gs_rst K = false) (C : gs_cR K rc rc') (hu : (up = none ∧ up' = none) ∨ ∃ m m', up = some m ∧ up' = some m' ∧ gs_mR D m m') : gs_mR D (gs_dsc1 K rc up) (gs_dsc1 (gs_ref1 K) rc' up') := by
  show gs_mR D (gs_b (gs_u1 K) _) (gs_b (gs_u1 K) _)
  refine gs_mR_u1.b fun t => gs_mR.ite (fun _ => gs_mR.r) (fun _ => gs_mR.ite (fun _ => ?_) (fun _ => gs_mR.ite (fun _ => gs_mR.x) (fun _ => ?_)))
  · refine gs_mR_ent.b fun e s s' h => ?_
    show gs_rR D (match ((gs_hs s).getD e (-1, [])).2 with
      | [] => .error (-4)
      | l :: L => .ok (l :: L, s)) (match ((gs_hs s').getD e (-1, [])).2 with
      | [] => .error (-4)
      | l :: L => .ok (l :: L, s'))
    rw [h.hs]
    cases ((gs_hs s).getD e (-1, [])).2 with
    | nil => exact gs_rR.er
    | cons l L => exact ⟨rfl, h⟩
  · rcases hu with ⟨e1, e2⟩ | ⟨m, m', e1, e2, hm⟩
    · rw [e1, e2]; exact gs_mR.x
    · rw [e1, e2]
      dsimp only
      rw [gs_utf_ref]
      refine (gs_mR_utf (K := K)).b fun a => gs_mR.g fun s s' h => ?_
      rw [h.pl]
      exact ((gs_mR_nxt (K := K)).b fun id => gs_mR_addE.b fun e => (gs_mR_flg (K := K)).b fun fl => (gs_mR_strm C).b fun fs => (gs_mR_rest hK C 701).b fun _ => hm.b fun L => gs_mR_mch.b fun _ => gs_mR_setD.b fun _ => gs_mR.r) s s' h
theorem gs_mR_desc (hK : gs_rst K = false) (C : gs_cR K rc rc') : ∀ k, gs_mR D (gs_desc K rc k) (gs_desc (gs_ref1 K) rc' k)
  | 0 => gs_mR_dsc1 hK C (Or.inl ⟨rfl, rfl⟩)
  | k + 1 => gs_mR_dsc1 hK C (Or.inr ⟨_, _, rfl, rfl, gs_mR_desc hK C k⟩)
theorem gs_mR_vals {tg : Option Nat} {o : Nat} (C : gs_cR K rc rc') : ∀ fs, gs_mR D (gs_vals K rc tg o fs) (gs_vals (gs_ref1 K) rc' tg o fs)
  | [] => gs_mR.r
  | q :: fs => by
    unfold gs_vals
    rw [gs_prim_ref]
    show gs_mR D (gs_b (if q.2 < 6 then gs_prim K q.2 else gs_b rc fun v => gs_r v.toInt64) _) (gs_b (if q.2 < 6 then gs_prim K q.2 else gs_b rc' fun v => gs_r v.toInt64) _)
    exact (gs_mR.ite (fun _ => gs_mR_prim) (fun _ => (C.1 D).b fun _ => gs_mR.r)).b fun _ => gs_mR_wrt.b fun _ => gs_mR_vals C fs
theorem gs_mR_data {c : Option Nat} {o : Nat} {l : gs_L} (hK : gs_rst K = false) (C : gs_cR K rc rc') : gs_mR D (gs_data K rc c o l) (gs_data (gs_ref1 K) rc' c o l) := by
  unfold gs_data
  rw [gs_inch_ref]
  exact (gs_mR_vals C _).b fun _ => gs_mR.ite (fun _ => gs_mR.r) (fun _ => (gs_mR.ite (fun _ => gs_mR_extra) (fun _ => gs_mR.r)).b fun _ => gs_mR_rest hK C 701)
theorem gs_mR_dats {c : Option Nat} {o : Nat} (hK : gs_rst K = false) (C : gs_cR K rc rc') : ∀ L, gs_mR D (gs_dats K rc c o L) (gs_dats (gs_ref1 K) rc' c o L)
  | [] => gs_mR.r
  | _ :: L => (gs_mR_data hK C).b fun _ => gs_mR_dats hK C L
theorem gs_mR_have {m m' : gs_M (List gs_L)} {f f' : gs_L → List gs_L → gs_M α} (a : gs_mR D m m') (b : ∀ l L, gs_mR D (f l L) (f' l L)) : gs_mR D (gs_have m f) (gs_have m' f') := a.b fun L => by
  cases L with
  | nil => exact gs_mR.x
  | cons l L => exact b l L
/-- an object made on both sides -/
theorem gs_mR_new {D' : Nat → Nat → Prop} {w w' : gs_O} {k k' : Nat → gs_M β} (hs : gs_sR D s s') (hD : ∀ x i, x < (gs_hp s).length → ¬ D' x i → ¬ D x i) (g : w'.1 = w.1 ∧ w'.2.1 = w.2.1 ∧ w'.2.2.2 = w.2.2.2 ∧ w'.2.2.1.length = w.2.2.1.length ∧ (w.1 ≠ 3 → w'.2.2.1 = w.2.2.1) ∧ ∀ i, ¬ D' (gs_hp s).length i → w'.2.2.1[i]? = w.2.2.1[i]?) (b : ∀ s1 s1', gs_sR D' s1 s1' → gs_rR D (k (gs_hp s).length s1) (k' (gs_hp s).length s1')) : gs_rR D (gs_b (gs_addT w) k s) (gs_b (gs_addT w') k' s') := by
  unfold gs_b gs_addT
  rw [hs.2.2.1]
  by_cases c : 234 ≤ (gs_hp s).length
  · rw [if_pos c, if_pos c]; exact gs_rR.er
  · rw [if_neg c, if_neg c]
    exact b _ _ ⟨hs.1, hs.2.1, hs.2.2.app hD g⟩
theorem gs_mR_inst (hK : gs_rst K = false) (C : gs_cR K rc rc') : gs_mR D (gs_inst K rc d) (gs_inst (gs_ref1 K) rc' d) := by
  refine gs_mR_have (gs_mR_desc hK C 8) fun l up => gs_mR_lim.b fun _ => gs_mR.ite (fun _ => gs_mR.x) (fun _ => ?_)
  cases gs_own l with
  | none => exact gs_mR.x
  | some c =>
    show gs_mR D (match gs_cls K c with
      | none => gs_x (-9)
      | some C => _) (match gs_cls K c with
      | none => gs_x (-9)
      | some C => _)
    cases gs_cls K c with
    | none => exact gs_mR.x
    | some Cc =>
      dsimp only
      refine gs_mR.ite (fun _ => gs_mR.x) (fun _ s s' h => ?_)
      rw [gs_slot0_ref]
      refine gs_mR_new (D' := fun x i => D x i ∧ x ≠ (gs_hp s).length) h (fun x i hx z y => z ⟨y, Nat.ne_of_lt hx⟩) ⟨rfl, rfl, rfl, rfl, fun _ => rfl, fun _ _ => rfl⟩ (fun s1 s1' h1 => ?_)
      refine gs_rR.mono (D := fun x i => D x i ∧ x ≠ (gs_hp s).length) ?_ (fun x i z => z.1)
      refine (gs_mR_addE.b fun e => (gs_mR_dats hK C _).b fun _ => gs_mR.g fun s2 s2' h2 => ?_) s1 s1' h1
      have e0 : ((gs_hp s2').getD (gs_hp s).length (0, none, [], 0, 0)).2.2.1.getD 0 0 = ((gs_hp s2).getD (gs_hp s).length (0, none, [], 0, 0)).2.2.1.getD 0 0 := by
        rw [List.getD_eq_getElem?_getD (l := gs_hp s2'), List.getD_eq_getElem?_getD (l := gs_hp s2)]
        rcases h2.2.2.at (o := (gs_hp s).length) with ⟨e1, e2⟩ | ⟨w, w', e1, e2⟩
        · rw [e1, e2]
        · rw [e1, e2]
          show w'.2.2.1.getD 0 0 = w.2.2.1.getD 0 0
          rw [List.getD_eq_getElem?_getD, List.getD_eq_getElem?_getD, (h2.2.2.2 _ _ _ e1 e2).2.2.2.2.2 0 (fun z => z.2 rfl)]
      rw [e0]
      exact (gs_mR.ite (fun _ => gs_mR.x) (fun _ => gs_mR_setE.b fun _ => gs_mR.r)) s2 s2' h2
theorem gs_mR_ints {o : Nat} : ∀ k j, gs_mR D (gs_ints K o k j) (gs_ints K o k j)
  | 0, _ => gs_mR.r
  | k + 1, j => gs_mR_u4.b fun _ => gs_mR_val.b fun _ => gs_mR_ints k (j + 1)
theorem gs_ints_ref {o : Nat} : ∀ k j, gs_ints (gs_ref1 K) o k j = gs_ints K o k j
  | 0, _ => rfl
  | k + 1, j => by
    show gs_b (gs_u4 K) (fun v => gs_b _ fun _ => gs_ints (gs_ref1 K) o k (j + 1)) = gs_b (gs_u4 K) (fun v => gs_b _ fun _ => gs_ints K o k (j + 1))
    rw [gs_ints_ref k (j + 1)]
theorem gs_mR_refs {o : Nat} (C : gs_cR K rc rc') : ∀ k j (s s' : gs_S), gs_sR (fun x i => D x i ∨ (x = o ∧ j ≤ i ∧ i < j + k)) s s' → gs_rR D (gs_refs rc o k j s) (gs_refs rc' o k j s')
  | 0, j, s, s', h => ⟨rfl, h.1, h.2.1, h.2.2.mono (fun x i z => z.elim id (fun y => by omega))⟩
  | k + 1, j, s, s', h => by
    have q := C.1 _ s s' h
    show gs_rR D (gs_b rc _ s) (gs_b rc' _ s')
    unfold gs_b
    cases e : rc s with
    | error x =>
      rw [e] at q
      cases e' : rc' s' with
      | error y => rw [e'] at q; exact q
      | ok y => rw [e'] at q; exact q.elim
    | ok x =>
      rw [e] at q
      cases e' : rc' s' with
      | error y => rw [e'] at q; exact q.elim
      | ok y =>
        rw [e'] at q
        dsimp only
        rw [q.1]
        refine gs_mR_refs C k (j + 1) _ _ ⟨q.2.1, q.2.2.1, q.2.2.2.mod (fun x i hx z y => z (y.elim Or.inl (fun y => absurd y.1 hx))) (fun w w' e e' => ?_)⟩
        obtain ⟨h1, h2, h3, h4, h5, h6⟩ := q.2.2.2.2 o w w' e e'
        refine ⟨h1, h2, h3, by show (w'.2.2.1.set j _).length = (w.2.2.1.set j _).length; rw [List.length_set, List.length_set, h4], fun z => by show w'.2.2.1.set j _ = w.2.2.1.set j _; rw [h5 z], fun i hi => ?_⟩
        show (w'.2.2.1.set j _)[i]? = (w.2.2.1.set j _)[i]?
        rw [List.getElem?_set, List.getElem?_set, h4]
        by_cases c : j = i
        · rw [if_pos c, if_pos c]
        · rw [if_neg c, if_neg c]
          exact h6 i (fun z => hi (z.elim Or.inl (fun y => Or.inr ⟨y.1, by omega, by omega⟩)))
theorem gs_mR_arr (hK : gs_rst K = false) (C : gs_cR K rc rc') : gs_mR D (gs_arr K rc d) (gs_arr (gs_ref1 K) rc' d) := by
  refine gs_mR_have (gs_mR_desc hK C 8) fun l _ => ?_
  show gs_mR D (if gs_spelt K (gs_nf l) (gs_nl l) gs_tI = false ∧ gs_spelt K (gs_nf l) (gs_nl l) gs_tR = false then _ else _) (if gs_spelt K (gs_nf l) (gs_nl l) gs_tI = false ∧ gs_spelt K (gs_nf l) (gs_nl l) gs_tR = false then _ else _)
  refine gs_mR.ite (fun _ => gs_mR.x) (fun _ => ?_)
  show gs_mR D (gs_b (gs_u4 K) _) (gs_b (gs_u4 K) _)
  refine gs_mR_u4.b fun n => gs_mR.ite (fun _ => gs_mR.x) (fun _ => gs_mR_lim.b fun _ s s' h => ?_)
  show gs_rR D (gs_b (gs_addT (if gs_spelt K (gs_nf l) (gs_nl l) gs_tI = true then 2 else 3, none, List.replicate n.toNatClampNeg (if gs_spelt K (gs_nf l) (gs_nl l) gs_tI = true then 0 else gs_fill K), 0, 0)) (fun o => gs_b (gs_addE (nI o)) fun _ => gs_b (if gs_spelt K (gs_nf l) (gs_nl l) gs_tI = true then gs_ints K o n.toNatClampNeg 0 else gs_refs rc o n.toNatClampNeg 0) fun _ => gs_r (nI o)) s)
    (gs_b (gs_addT (if gs_spelt K (gs_nf l) (gs_nl l) gs_tI = true then 2 else 3, none, List.replicate n.toNatClampNeg (if gs_spelt K (gs_nf l) (gs_nl l) gs_tI = true then 0 else -2), 0, 0)) (fun o => gs_b (gs_addE (nI o)) fun _ => gs_b (if gs_spelt K (gs_nf l) (gs_nl l) gs_tI = true then gs_ints (gs_ref1 K) o n.toNatClampNeg 0 else gs_refs rc' o n.toNatClampNeg 0) fun _ => gs_r (nI o)) s')
  by_cases c : gs_spelt K (gs_nf l) (gs_nl l) gs_tI = true
  · simp only [if_pos c]
    refine gs_mR_new (D' := D) h (fun _ _ _ z => z) ⟨rfl, rfl, rfl, rfl, fun _ => rfl, fun _ _ => rfl⟩ (fun s1 s1' h1 => ?_)
    refine (gs_mR_addE.b fun _ => gs_mR.b ?_ fun _ => gs_mR.r) s1 s1' h1
    rw [gs_ints_ref]
    exact gs_mR_ints _ _
  · simp only [if_neg c]
    refine gs_mR_new (D' := fun x i => D x i ∨ (x = (gs_hp s).length ∧ 0 ≤ i ∧ i < 0 + n.toNatClampNeg)) h (fun _ _ _ z y => z (Or.inl y)) ⟨rfl, rfl, rfl, ?_, fun z => absurd rfl z, fun i hi => ?_⟩ (fun s1 s1' h1 => ?_)
    · show (List.replicate _ _).length = (List.replicate _ _).length
      rw [List.length_replicate, List.length_replicate]
    · show (List.replicate _ _)[i]? = (List.replicate _ _)[i]?
      have hi' : n.toNatClampNeg ≤ i := by
        rcases Nat.lt_or_ge i n.toNatClampNeg with z | z
        · exact absurd (Or.inr ⟨rfl, Nat.zero_le _, by omega⟩) hi
        · exact z
      rw [List.getElem?_eq_none (by rw [List.length_replicate]; exact hi'), List.getElem?_eq_none (by rw [List.length_replicate]; exact hi')]
    · have q := gs_mR_addE (v := nI (gs_hp s).length) s1 s1' h1
      unfold gs_b
      cases e : gs_addE (nI (gs_hp s).length) s1 with
      | error x =>
        rw [e] at q
        cases e' : gs_addE (nI (gs_hp s).length) s1' with
        | error y => rw [e'] at q; exact q
        | ok y => rw [e'] at q; exact q.elim
      | ok x =>
        rw [e] at q
        cases e' : gs_addE (nI (gs_hp s).length) s1' with
        | error y => rw [e'] at q; exact q.elim
        | ok y =>
          rw [e'] at q
          dsimp only
          have q2 := gs_mR_refs (D := D) C n.toNatClampNeg 0 x.2 y.2 q.2
          cases f : gs_refs rc (gs_hp s).length n.toNatClampNeg 0 x.2 with
          | error x =>
            rw [f] at q2
            cases f' : gs_refs rc' (gs_hp s).length n.toNatClampNeg 0 y.2 with
            | error y => rw [f'] at q2; exact q2
            | ok y => rw [f'] at q2; exact q2.elim
          | ok x =>
            rw [f] at q2
            cases f' : gs_refs rc' (gs_hp s).length n.toNatClampNeg 0 y.2 with
            | error y => rw [f'] at q2; exact q2.elim
            | ok y => rw [f'] at q2; exact ⟨rfl, q2.2⟩
theorem gs_mR_con1 (hK : gs_rst K = false) (C : gs_cR K rc rc') : gs_mR D (gs_con1 K rc d) (gs_con1 (gs_ref1 K) rc' d) := by
  refine gs_mR_have (gs_mR_desc hK C 8) fun l _ => gs_mR_lim.b fun _ => gs_mR.ite (fun _ => gs_mR.x) (fun _ => ?_)
  cases gs_own l with
  | none => exact gs_mR.x
  | some c =>
    refine gs_mR_addE.b fun e => (C.1 D).b fun v s s' h => ?_
    show gs_rR D (if gs_cname s v < 0 ∨ 26 ≤ gs_cname s v ∨ ((gs_cls K c).elim 0 gs_con >>> (gs_cname s v &&& 31)) &&& 1 = 0 then .error (-6) else gs_b (gs_only c (gs_cname s v)) (fun o => gs_b (gs_setE e (nI o)) fun _ => gs_r (nI o)) s)
      (if gs_cname s' v < 0 ∨ 26 ≤ gs_cname s' v ∨ ((gs_cls K c).elim 0 gs_con >>> (gs_cname s' v &&& 31)) &&& 1 = 0 then .error (-6) else gs_b (gs_only c (gs_cname s' v)) (fun o => gs_b (gs_setE e (nI o)) fun _ => gs_r (nI o)) s')
    rw [h.cname]
    by_cases c1 : gs_cname s v < 0 ∨ 26 ≤ gs_cname s v ∨ ((gs_cls K c).elim 0 gs_con >>> (gs_cname s v &&& 31)) &&& 1 = 0
    · rw [if_pos c1, if_pos c1]; exact gs_rR.er
    · rw [if_neg c1, if_neg c1]
      exact (gs_mR_only.b fun o => gs_mR_setE.b fun _ => gs_mR.r) s s' h
theorem gs_mR_body (hK : gs_rst K = false) (C : gs_cR K rc rc') : gs_mR D (gs_body K rc d) (gs_body (gs_ref1 K) rc' d) := by
  refine gs_mR_room.b fun _ => ?_
  show gs_mR D (gs_b (gs_u1 K) _) (gs_b (gs_u1 K) _)
  refine gs_mR_u1.b fun t => gs_mR.ite (fun _ => gs_mR.r) (fun _ => gs_mR.ite (fun _ => gs_mR_ref) (fun _ => gs_mR.ite (fun _ => ?_) (fun _ => gs_mR.ite (fun _ => gs_mR_inst hK C) (fun _ => gs_mR.ite (fun _ => gs_mR_text) (fun _ => gs_mR.ite (fun _ => gs_mR_arr hK C) (fun _ => gs_mR.ite (fun _ => gs_mR_con1 hK C) (fun _ => gs_mR.ite (fun _ => gs_mR.x) (fun _ => gs_mR.ite (fun _ => gs_mR.x) (fun _ => gs_mR.x)))))))))
  refine gs_mR.b (fun s s' h => ?_) fun _ => (gs_mR_desc hK C 8).b fun _ => gs_mR.r
  rw [h.pl]
  exact ⟨rfl, h.p⟩
theorem gs_body_no (hs : gs_n K ≤ gs_pl s) : gs_body (gs_ref1 K) rc' d s = .error (-3) ∨ gs_body (gs_ref1 K) rc' d s = .error (-8) := by
  unfold gs_body gs_b gs_room
  by_cases c : 8 < d ∨ 60 < gs_size s
  · rw [if_pos c]; exact Or.inr rfl
  · rw [if_neg c]
    dsimp only
    have e : gs_u1 (gs_ref1 K) s = .error (-3) := by
      show gs_b (gs_nxt K 1) _ s = _
      unfold gs_b gs_nxt
      rw [if_pos (by omega)]
    rw [e]
    exact Or.inl rfl
theorem gs_cR_rc (hK : gs_rst K = false) : ∀ k, gs_cR K (gs_rc K k) (gs_rc (gs_ref1 K) k)
  | 0 => ⟨fun _ => gs_mR.x, fun _ _ => Or.inr rfl⟩
  | k + 1 => ⟨fun _ => gs_mR_body hK (gs_cR_rc hK k), fun _ h => gs_body_no h⟩
theorem gs_reset_ref : ∀ (k : Nat) (s : gs_S), gs_reset (gs_ref1 K) k s = gs_reset K k s
  | 0, _ => rfl
  | k + 1, s => by
    show (if gs_pl s < gs_n K ∧ gs_sb K (gs_pl s) = 121 then gs_reset (gs_ref1 K) k (gs_pl s + 1, gs_hp s, gs_hs s, (gs_hs s).length) else .ok ((), s)) = (if gs_pl s < gs_n K ∧ gs_sb K (gs_pl s) = 121 then gs_reset K k (gs_pl s + 1, gs_hp s, gs_hs s, (gs_hs s).length) else .ok ((), s))
    rw [gs_reset_ref k]
theorem gs_sR.eq (h : gs_sR (fun _ _ => False) s s') : s' = s := by
  have e : gs_hp s' = gs_hp s := by
    refine List.ext_getElem? (fun i => ?_)
    rcases h.2.2.at (o := i) with ⟨e1, e2⟩ | ⟨w, w', e1, e2⟩
    · rw [e1, e2]
    · rw [e1, e2]
      obtain ⟨h1, h2, h3, h4, h5, h6⟩ := h.2.2.2 i w w' e1 e2
      have h7 : w'.2.2.1 = w.2.2.1 := List.ext_getElem? (fun i => h6 i id)
      exact congrArg some (Prod.ext h1 (Prod.ext h2 (Prod.ext h7 h3)))
  exact Prod.ext h.1 (Prod.ext e h.2.1)
/-- a read from outside, on both sides: the same, or two faults alike -/
theorem gs_out_two (hK : gs_rst K = false) (s : gs_S) : (∃ q, gs_out K s = .ok q ∧ gs_out (gs_ref1 K) s = .ok q) ∨ ∃ e e', gs_out K s = .error e ∧ gs_out (gs_ref1 K) s = .error e' ∧ gs_eR e e' := by
  have q0 : ∀ s1, gs_rR (fun _ _ => False) (gs_rc K 8 s1) (gs_rc (gs_ref1 K) 8 s1) := fun s1 => (gs_cR_rc hK 8).1 _ s1 s1 gs_sR.refl
  have q : gs_rR (fun _ _ => False) (gs_out K s) (gs_out (gs_ref1 K) s) := by
    show gs_rR _ (gs_b (gs_room 1) (fun _ => gs_b (gs_reset K 701) fun _ => gs_rc K 8) s) (gs_b (gs_room 1) (fun _ => gs_b (gs_reset (gs_ref1 K) 701) fun _ => gs_rc (gs_ref1 K) 8) s)
    rw [show gs_reset (gs_ref1 K) 701 = gs_reset K 701 from funext (gs_reset_ref 701)]
    unfold gs_b
    cases gs_room 1 s with
    | error x => exact gs_rR.er
    | ok x =>
      dsimp only
      cases gs_reset K 701 x.2 with
      | error x => exact gs_rR.er
      | ok y => exact q0 y.2
  cases e : gs_out K s with
  | error x =>
    rw [e] at q
    cases e' : gs_out (gs_ref1 K) s with
    | error y => rw [e'] at q; exact Or.inr ⟨x, y, rfl, rfl, q⟩
    | ok y => rw [e'] at q; exact q.elim
  | ok x =>
    rw [e] at q
    cases e' : gs_out (gs_ref1 K) s with
    | error y => rw [e'] at q; exact q.elim
    | ok y =>
      rw [e'] at q
      exact Or.inl ⟨x, rfl, by rw [show y = x from Prod.ext q.1 q.2.eq]⟩
end NZ
/-! THE LAW, 1: what a call of one side leaves of the other. -/
section LA
variable {E : Nat → Value} {d x m b : Nat} {h h' : gm_H} {ca : Nat → Nat} {K : gs_K} {F : Nat → Prop} {s : gs_S} {lf : Int32} {t t' : gr_t}
theorem gm_Ca.keep {o mi : Nat} {as : List Value} {Q : gm_R → gm_H → Prop} {M : gm_M} (hM : gm_mt[mi]? = some M) (h7 : M.2.2.2.2.2.1 ≠ 7) (ho : gm_cno M.2.2.2.2.2.1 = o) (ho3 : o < 3) (hw : gm_Wf h) (c : gm_Ca E d mi as h Q) : gm_Ca E d mi as h (fun r h' => Q r h' ∧ gm_Kp o h h') := by
  obtain ⟨r, h', ⟨n, g⟩, q⟩ := c
  exact ⟨r, h', ⟨n, g⟩, q, gm_run_Kp ho3 n d mi 0 _ _ h r h' M hM h7 (Or.inl ho) hw g⟩
theorem gm_Kp.kd {o a : Nat} (k : gm_Kp o h h') (h9 : gm_kd h a ≠ 999) (ho : gm_ko (gm_kd h a) ≠ o) : gm_rd h' a = gm_rd h a := by
  unfold gm_kd at h9 ho
  cases e : gm_rd h a with
  | none => rw [e] at h9; exact absurd rfl h9
  | some c =>
    obtain ⟨q, vs⟩ := c
    rw [e] at h9 ho
    dsimp only at h9 ho
    by_cases z : q < 6 ∧ vs.length ≠ gm_N q
    · rw [if_pos z] at h9; exact absurd rfl h9
    · rw [if_neg z] at ho
      exact (k.2.2 a _ e).2 ho
theorem gm_Kp.at {o a k : Nat} (p : gm_Kp o h h') (hk : gm_kd h a = k) (h9 : k ≠ 999) (ho : gm_ko k ≠ o) : gm_rd h' a = gm_rd h a := p.kd (by rw [hk]; exact h9) (by rw [hk]; exact ho)
theorem gx_ds.kp (k : gm_Kp 2 h h') : ∀ {L : List gs_L} {v : Value}, gx_ds h x ca K F L v → gx_ds h' x ca K F L v
  | [], _, q => q
  | l :: L, v, q => by
    obtain ⟨a, u, w, rfl, o1, o2, o3, q1, q2, q3, q4, q5, q6, q7, q8, q9, q10, q11, q12, q13, q14, q15, q16, q17, q18, q19⟩ := q
    have ea := k.at q1 (by decide) (by decide)
    have eu := k.at q11 (by decide) (by decide)
    have ew := k.at q13 (by decide) (by decide)
    refine ⟨a, u, w, rfl, o1.tr k.1, o2.tr k.1, o3.tr k.1, ?_⟩
    simp only [gv_kd ea, gv_kd eu, gv_kd ew, gv_ln eu, gv_ln ew, gv_fv ea, gv_fv eu, gv_fv ew]
    exact ⟨q1, q2, q3, q4, q5, q6, q7, q8, q9, q10, q11, q12, q13, q14, q15, q16, q17, q18, gx_ds.kp k q19⟩
theorem gx_G.kp (k : gm_Kp 2 h h') (q : gx_G E h x F) : gx_G E h' x F := by
  obtain ⟨⟨z, e0, o, j1, j2, j3⟩, e5, q⟩ := q
  refine ⟨⟨z, e0, o.tr k.1, ?_⟩, e5, fun i hi => ?_⟩
  · have ea := k.at j1 (by decide) (by decide)
    simp only [gv_kd ea, gv_ln ea, gv_fv ea]
    exact ⟨j1, j2, j3⟩
  · obtain ⟨a, v, e, o1, o2, i1, i2, i3, i4, i5, i6⟩ := q i hi
    have ea := k.at i1 (by decide) (by decide)
    have ev := k.at i5 (by decide) (by decide)
    refine ⟨a, v, e, o1.tr k.1, o2.tr k.1, ?_⟩
    simp only [gv_kd ea, gv_ln ea, gv_fv ea, gv_kd ev, gv_ln ev, gv_fv ev]
    exact ⟨i1, i2, i3, i4, i5, i6⟩
theorem gx_R.kp (k : gm_Kp 2 h h') (q : gx_R E h x ca K F s) : gx_R E h' x ca K F s := by
  obtain ⟨q1, q2, q3, q4, ⟨ta, q5⟩, q6, q7⟩ := q
  obtain ⟨z1, z2, z3, z4, z5, z6, z7, z8, z9, z10, z11, z12, z13, z14, z15, z16, z17, z18, z19⟩ := id q1
  have r0 := k.at z1 (by decide) (by decide)
  have r1 := k.at z6 (by decide) (by decide)
  have r2 := k.at z8 (by decide) (by decide)
  have r3 := k.at z10 (by decide) (by decide)
  have r4 := k.at z12 (by decide) (by decide)
  have r5 := k.at z15 (by decide) (by decide)
  have r6 := k.at z17 (by decide) (by decide)
  have hle := k.1
  refine ⟨?_, ?_, ⟨⟨q3.1.1.kp k, q3.1.2⟩, fun c hc => ⟨fun z => ?_, fun C z => ?_⟩⟩, ?_, ⟨ta, q5.1, fun i o z => ?_⟩, fun i e z => ?_, q7⟩
  · unfold gx_A
    simp only [gv_kd r0, gv_fv r0, gv_kd r1, gv_ln r1, gv_kd r2, gv_ln r2, gv_kd r3, gv_ln r3, gv_kd r4, gv_fv r4, gv_kd r5, gv_ln r5, gv_kd r6, gv_ln r6]
    exact ⟨z1, z2, z3, z4, z5, z6, z7, z8, z9, z10, z11, z12, z13, z14, z15, z16, z17, z18, by omega⟩
  · unfold gx_B at q2 ⊢
    simp only [gv_fv r0, gv_fv r2]
    exact q2
  · rw [gv_fv r1]; exact (q3.2 c hc).1 z
  · obtain ⟨a1, ⟨⟨o1, o2, o3⟩, p1, p2, p3, p4, p5, p6, p7, p8, p9, p10, p11, p12, p13, p14, p15, p16⟩, a3⟩ := (q3.2 c hc).2 C z
    have ea := k.at p1 (by decide) (by decide)
    have eu := k.at p12 (by decide) (by decide)
    have ew := k.at p14 (by decide) (by decide)
    refine ⟨by rw [gv_fv r1]; exact a1, ⟨⟨o1.tr k.1, o2.tr k.1, o3.tr k.1⟩, ?_⟩, a3⟩
    simp only [gv_kd ea, gv_kd eu, gv_kd ew, gv_ln eu, gv_ln ew, gv_fv ea, gv_fv eu, gv_fv ew]
    exact ⟨p1, p2, p3, p4, p5, p6, p7, p8, p9, p10, p11, p12, p13, p14, p15, p16⟩
  · unfold gx_M at q4 ⊢
    simp only [gv_fv r0, gv_fv r4]
    exact q4
  · obtain ⟨b1, b2, b3⟩ := q5.2 i o z
    exact ⟨by rw [gv_fv r3]; exact b1, ⟨b2.1.tr k.1, b2.2.tr k.1⟩, b3.tr (k.at b3.1 (by decide) (by decide)) (k.at b3.2.2.2.2.2.2.1 (by decide) (by decide))⟩
  · rw [gv_fv r5, gv_fv r6]
    exact ⟨(q6 i e z).1, (q6 i e z).2.kp k⟩
theorem gx_X.kp (k : gm_Kp 2 h h') (q : gx_X E h x ca K s lf) : gx_X E h' x ca K s lf := ⟨q.1.kp k, by rw [gv_fv (k.at q.1.1.1 (by decide) (by decide))]; exact q.2⟩
/-- the reference's cells -/
def gr_at (h : gm_H) (m : Nat) (t : gr_t) : Prop := gr_H h m t = h
theorem gr_at.self : gr_at (gr_H h m t) m t := by
  unfold gr_at gr_H
  refine Prod.ext rfl (Prod.ext rfl (funext fun a => ?_))
  dsimp only
  split <;> rfl
theorem gr_at.rd {a : Nat} (q : gr_at h m t) (ha : m ≤ a ∧ a ≤ m + 34) : gm_rd h a = some (gr_k (a - m), (List.range (gr_l (a - m))).map (gr_v m t (a - m))) := by
  rw [← q]
  show (if _ then _ else _) = _
  rw [if_pos ha]
theorem gr_k_ko (o : Nat) (ho : o ≤ 34) : gm_ko (gr_k o) = 2 := by
  have : ∀ o, o < 35 → gm_ko (gr_k o) = 2 := by decide
  exact this o (by omega)
theorem gr_at.kp (q : gr_at h m t) (k : gm_Kp 1 h h') : gr_at h' m t := by
  unfold gr_at gr_H
  refine Prod.ext rfl (Prod.ext rfl (funext fun a => ?_))
  dsimp only
  by_cases ha : m ≤ a ∧ a ≤ m + 34
  · rw [if_pos ha]
    have e := (k.2.2 a _ (q.rd ha)).2 (by rw [gr_k_ko _ (by omega)]; decide)
    exact e.symm
  · rw [if_neg ha]
/-- the script -/
theorem gm_Kp.scr {o : Nat} {xs : List Int32} (k : gm_Kp o h h') (ho : o < 3) (q : gm_rd h b = some (300, xs.map .int)) : gm_rd h' b = some (300, xs.map .int) := (k.2.2 b _ q).2 (by
  show gm_ko 300 ≠ o
  have : gm_ko 300 = 3 := by decide
  omega)
end LA
/-! THE LAW, 2: both sides' states; a call of either side. -/
/-- what a reader stands for: what a read leaves alone, place and heap and handles, the lasting fault -/
abbrev gp_s : Type := gs_K × gs_S × Int32
def gp_define (σ : gp_s) (n k u : Int32) (id : Int64) : Int32 × gp_s := if gs_defok σ.1 n k u = true then (0, gs_def1 σ.1 n.toNatClampNeg (k, gs_defsup u, id, [], false, 0), σ.2) else (-1, σ)
def gp_field (σ : gp_s) (n nm ty : Int32) : Int32 × gp_s := ((gs_fld σ.1 σ.2.1 n nm ty).1, (gs_fld σ.1 σ.2.1 n nm ty).2, σ.2)
def gp_constant (σ : gp_s) (n nm on : Int32) : Int32 × gp_s := ((gs_cst σ.1 n nm on).1, (gs_cst σ.1 n nm on).2, σ.2)
def gp_put (σ : gp_s) (v : Int64) (c : Int32) : Int32 × gp_s := ((gs_putr σ.1 v c).1, (gs_putr σ.1 v c).2, σ.2)
def gp_begin (σ : gp_s) : Int32 × gp_s := ((gs_begin σ.1).1, σ.1, ((gs_begin σ.1).2.1, [], [], 0), (gs_begin σ.1).2.2)
def gp_read (σ : gp_s) : Int32 × gp_s := ((gs_read σ.1 σ.2.1 σ.2.2).1, σ.1, (gs_read σ.1 σ.2.1 σ.2.2).2)
def gp_pass (σ : gp_s) : Int32 × gp_s := ((gs_pass σ.1 σ.2.1 σ.2.2).1, σ.1, (gs_pass σ.1 σ.2.1 σ.2.2).2)
def gp_X (E : Nat → Value) (H : gm_H) (x : Nat) (σ : gp_s) : Prop := ∃ ca, gx_X E H x ca σ.1 σ.2.1 σ.2.2
def gp_M (H : gm_H) (m : Nat) (τ : gp_s) : Prop := ∃ t, gr_at H m t ∧ gr_X t τ.1 τ.2.1 τ.2.2
def gl_I (E : Nat → Value) (b : Nat) (xs : List Int32) (x m C S : Nat) (σ τ : gp_s) (H : gm_H) : Prop := (gm_Wf H ∧ gm_rd H b = some (300, xs.map .int) ∧ H.1 ≤ C ∧ H.2.1 ≤ S) ∧ gp_X E H x σ ∧ gp_M H m τ
/-- a call ends with a value, and so -/
def gl_p (v : Value) (P : gm_H → Prop) : gm_R → gm_H → Prop := fun r h' => r = .inl (some v) ∧ P h'
section LB
variable {E : Nat → Value} {b x m C S d : Nat} {xs : List Int32} {H : gm_H} {σ σ' τ τ' : gp_s} {v : Value}
theorem gl_kn {P : gm_H → Prop} {W : Option Value → gm_H → Prop} (k : ∀ h9, P h9 → W (some v) h9) : ∀ (v9 : Option Value) (h9 : gm_H), gl_p v P (.inl v9) h9 → W v9 h9 := fun v9 h9 q => by
  obtain ⟨e, p⟩ := q
  cases e
  exact k h9 p
theorem gl_kx {P : gm_H → Prop} {W : Nat → gm_H → Prop} : ∀ (x9 : Nat) (h9 : gm_H), gl_p v P (.inr x9) h9 → W x9 h9 := fun x9 h9 q => by cases q.1
/-- what a call of the class shows -/
def gl_cx (E : Nat → Value) (x mi d : Nat) (as : List Value) (H : gm_H) (v : Value) (σ' : gp_s) : Prop := gm_Ca E d mi as H (fun r h' => r = .inl (some v) ∧ gp_X E h' x σ' ∧ h'.1 ≤ H.1 + 710 ∧ h'.2.1 ≤ H.2.1 + 5700)
theorem gl_cx.to {mi : Nat} {as : List Value} {M : gm_M} (c : gl_cx E x mi d as H v σ') (I : gl_I E b xs x m C S σ τ H) (hM : gm_mt[mi]? = some M) (h7 : M.2.2.2.2.2.1 ≠ 7) (ho : gm_cno M.2.2.2.2.2.1 = 1) : gm_Ca E d mi as H (gl_p v (gl_I E b xs x m (C + 710) (S + 5700) σ' τ)) := by
  refine gm_Ca.mono (gm_Ca.keep hM h7 ho (by decide) I.1.1 c) (fun r h' q => ?_)
  obtain ⟨⟨q1, q2, q3, q4⟩, k⟩ := q
  obtain ⟨t, at0, X⟩ := I.2.2
  have c1 := I.1.2.2.1
  have c2 := I.1.2.2.2
  exact ⟨q1, ⟨k.2.1, k.scr (by decide) I.1.2.1, by omega, by omega⟩, q2, t, at0.kp k, X⟩
def gl_cm (E : Nat → Value) (m mi d : Nat) (as : List Value) (H : gm_H) (v : Value) (τ τ' : gp_s) : Prop := ∀ t, gr_X t τ.1 τ.2.1 τ.2.2 → gm_Ca E d mi as (gr_H H m t) (fun r h' => r = .inl (some v) ∧ ∃ t', h' = gr_H H m t' ∧ gr_X t' τ'.1 τ'.2.1 τ'.2.2)
theorem gl_cm.to {mi : Nat} {as : List Value} {M : gm_M} (c : gl_cm E m mi d as H v τ τ') (I : gl_I E b xs x m C S σ τ H) (hM : gm_mt[mi]? = some M) (h7 : M.2.2.2.2.2.1 ≠ 7) (ho : gm_cno M.2.2.2.2.2.1 = 2) : gm_Ca E d mi as H (gl_p v (gl_I E b xs x m C S σ τ')) := by
  obtain ⟨I1, ⟨ca, X1⟩, t, at0, X⟩ := I
  have c0 := c t X
  rw [show gr_H H m t = H from at0] at c0
  refine gm_Ca.mono (gm_Ca.keep hM h7 ho (by decide) I1.1 c0) (fun r h' q => ?_)
  obtain ⟨⟨q1, t', rfl, q3⟩, k⟩ := q
  exact ⟨q1, ⟨k.2.1, k.scr (by decide) I1.2.1, I1.2.2.1, I1.2.2.2⟩, ⟨ca, X1.kp k⟩, t', gr_at.self, q3⟩
theorem gl_I.kx (I : gl_I E b xs x m C S σ τ H) : gm_kd H x = 0 := by
  obtain ⟨ca, X⟩ := I.2.1
  exact X.1.1.1
theorem gl_I.km (I : gl_I E b xs x m C S σ τ H) : gm_kd H m = 5 := by
  obtain ⟨t, at0, X⟩ := I.2.2
  rw [← at0]
  exact g_k0
/-- the class's calls -/
theorem gl_xdefine {n k u : Int32} {id : Int64} (hd : 1 ≤ d) (X : gp_X E H x σ) : gl_cx E x 52 d [.ref x, .int n, .int k, .int u, .long id] H (.int (gp_define σ n k u id).1) (gp_define σ n k u id).2 := by
  obtain ⟨ca, X⟩ := X
  refine gm_Ca.mono (x_define hd X) (fun r h' q => ?_)
  unfold gx_defQ at q
  unfold gp_define
  by_cases c : gs_defok σ.1 n k u = true
  · rw [if_pos c] at q ⊢
    exact ⟨q.1, ⟨_, q.2.1⟩, by omega, by omega⟩
  · rw [if_neg c] at q ⊢
    obtain ⟨q1, rfl⟩ := q
    exact ⟨q1, ⟨_, X⟩, by omega, by omega⟩
theorem gl_xfield {n nm ty : Int32} (hd : 1 ≤ d) (X : gp_X E H x σ) : gl_cx E x 53 d [.ref x, .int n, .int nm, .int ty] H (.int (gp_field σ n nm ty).1) (gp_field σ n nm ty).2 := by
  obtain ⟨ca, X⟩ := X
  refine gm_Ca.mono (x_field hd X) (fun r h' q => ?_)
  exact ⟨q.1, ⟨_, q.2.1⟩, by omega, by omega⟩
theorem gl_xconstant {n nm on : Int32} (hd : 1 ≤ d) (hon : on = 0 ∨ on = 1) (X : gp_X E H x σ) : gl_cx E x 54 d [.ref x, .int n, .int nm, .int on] H (.int (gp_constant σ n nm on).1) (gp_constant σ n nm on).2 := by
  obtain ⟨ca, X⟩ := X
  refine gm_Ca.mono (x_constant hd hon X) (fun r h' q => ?_)
  exact ⟨q.1, ⟨_, q.2.1⟩, by omega, by omega⟩
theorem gl_xput {w : Int64} {c : Int32} (X : gp_X E H x σ) : gl_cx E x 55 d [.ref x, .long w, .int c] H (.int (gp_put σ w c).1) (gp_put σ w c).2 := by
  obtain ⟨ca, X⟩ := X
  refine gm_Ca.mono (x_put X) (fun r h' q => ?_)
  exact ⟨q.1, ⟨_, q.2.1⟩, by omega, by omega⟩
theorem gl_xbegin (hd : 1 ≤ d) (X : gp_X E H x σ) : gl_cx E x 56 d [.ref x] H (.int (gp_begin σ).1) (gp_begin σ).2 := by
  obtain ⟨ca, X⟩ := X
  refine gm_Ca.mono (x_begin hd X) (fun r h' q => ?_)
  exact ⟨q.1, ⟨_, q.2.1⟩, by omega, by omega⟩
theorem gl_xread (hd : 143 ≤ d) (hK : gs_kok σ.1) (X : gp_X E H x σ) : gl_cx E x 57 d [.ref x] H (.int (gp_read σ).1) (gp_read σ).2 := by
  obtain ⟨ca, X⟩ := X
  refine gm_Ca.mono (x_read hK hd X) (fun r h' q => ?_)
  exact ⟨q.1, ⟨_, q.2.1⟩, by omega, by omega⟩
theorem gl_xpass (hd : 4 ≤ d) (X : gp_X E H x σ) : gl_cx E x 58 d [.ref x] H (.int (gp_pass σ).1) (gp_pass σ).2 := by
  obtain ⟨ca, X⟩ := X
  refine gm_Ca.mono (x_passBlock hd X) (fun r h' q => ?_)
  exact ⟨q.1, ⟨_, q.2.1⟩, by omega, by omega⟩
theorem gl_xobject {u w : Int32} (hd : 1 ≤ d) (X : gp_X E H x σ) : gl_cx E x 59 d [.ref x, .int u, .int w] H (.int (gs_object σ.2.1 u w)) σ := by
  obtain ⟨ca, X⟩ := X
  refine gm_Ca.mono (x_object hd X.1) (fun r h' q => ?_)
  obtain ⟨q1, rfl⟩ := q
  exact ⟨q1, ⟨_, X⟩, by omega, by omega⟩
theorem gl_xvalue {u w : Int32} (hd : 1 ≤ d) (X : gp_X E H x σ) : gl_cx E x 60 d [.ref x, .int u, .int w] H (.long (gs_value σ.2.1 u w)) σ := by
  obtain ⟨ca, X⟩ := X
  refine gm_Ca.mono (x_value hd X.1) (fun r h' q => ?_)
  obtain ⟨q1, rfl⟩ := q
  exact ⟨q1, ⟨_, X⟩, by omega, by omega⟩
theorem gl_xcount {w : Int32} (hd : 1 ≤ d) (X : gp_X E H x σ) : gl_cx E x 61 d [.ref x, .int w] H (.int (gs_count σ.1 σ.2.1 σ.2.2 w)) σ := by
  obtain ⟨ca, X⟩ := X
  refine gm_Ca.mono (x_count hd X) (fun r h' q => ?_)
  obtain ⟨q1, rfl⟩ := q
  exact ⟨q1, ⟨_, X⟩, by omega, by omega⟩
/-- the reference's -/
theorem gl_mdefine {n k u : Int32} {id : Int64} (hd : 2 ≤ d) : gl_cm E m 6 d [.ref m, .int n, .int k, .int u, .long id] H (.int (gp_define τ n k u id).1) τ (gp_define τ n k u id).2 := by
  intro t X
  refine gm_Ca.mono (M_define hd X) (fun r h' q => ?_)
  unfold gp_define
  by_cases c : gs_defok τ.1 n k u = true
  · rw [if_pos c] at q ⊢
    exact q
  · rw [if_neg c] at q ⊢
    exact ⟨q.1, t, q.2, X⟩
theorem gl_mfield {n nm ty : Int32} (hd : 2 ≤ d) : gl_cm E m 7 d [.ref m, .int n, .int nm, .int ty] H (.int (gp_field τ n nm ty).1) τ (gp_field τ n nm ty).2 := fun t X => M_field hd X
theorem gl_mconstant {n nm on : Int32} (hd : 2 ≤ d) (hon : on = 0 ∨ on = 1) : gl_cm E m 8 d [.ref m, .int n, .int nm, .int on] H (.int (gp_constant τ n nm on).1) τ (gp_constant τ n nm on).2 := fun t X => M_constant hd X hon
theorem gl_mput {w : Int64} {c : Int32} : gl_cm E m 9 d [.ref m, .long w, .int c] H (.int (gp_put τ w c).1) τ (gp_put τ w c).2 := fun t X => M_put X
theorem gl_mbegin (hd : 3 ≤ d) : gl_cm E m 14 d [.ref m] H (.int (gp_begin τ).1) τ (gp_begin τ).2 := fun t X => M_begin hd X
theorem gl_mpass (hd : 4 ≤ d) : gl_cm E m 47 d [.ref m] H (.int (gp_pass τ).1) τ (gp_pass τ).2 := fun t X => M_passBlock hd X
theorem gl_mobject {u w : Int32} (hd : 1 ≤ d) : gl_cm E m 48 d [.ref m, .int u, .int w] H (.int (gs_object τ.2.1 u w)) τ τ := fun t X => gm_Ca.mono (M_object hd X) (fun r h' q => ⟨q.1, t, q.2, X⟩)
theorem gl_mvalue {u w : Int32} (hd : 1 ≤ d) : gl_cm E m 49 d [.ref m, .int u, .int w] H (.long (gs_value τ.2.1 u w)) τ τ := fun t X => gm_Ca.mono (M_value hd X) (fun r h' q => ⟨q.1, t, q.2, X⟩)
theorem gl_mcount {w : Int32} : gl_cm E m 50 d [.ref m, .int w] H (.int (gs_count τ.1 τ.2.1 τ.2.2 w)) τ τ := fun t X => gm_Ca.mono (M_count X) (fun r h' q => ⟨q.1, t, q.2, X⟩)
/-- a read of the reference, whatever is known of it -/
def gl_RD (τ : gp_s) (v : Int32) (τ' : gp_s) : Prop := ∀ (E : Nat → Value) (d m : Nat) (H : gm_H), 100 ≤ d → gl_cm E m 46 d [.ref m] H (.int v) τ τ'
/-- one call, on both sides: which answers are compared (c), what holds between the two with so many calls to come -/
def gl_St (c : Nat → Bool) (R : Nat → gp_s → gp_s → Prop) : Prop := (∀ k σ τ n q u id, R (k + 1) σ τ → (c 0 = true → (gp_define σ n q u id).1 = (gp_define τ n q u id).1) ∧ R k (gp_define σ n q u id).2 (gp_define τ n q u id).2) ∧ (∀ k σ τ n q u, R (k + 1) σ τ → (c 1 = true → (gp_field σ n q u).1 = (gp_field τ n q u).1) ∧ R k (gp_field σ n q u).2 (gp_field τ n q u).2) ∧ (∀ k σ τ n q u, R (k + 1) σ τ → (c 2 = true → (gp_constant σ n q u).1 = (gp_constant τ n q u).1) ∧ R k (gp_constant σ n q u).2 (gp_constant τ n q u).2) ∧ (∀ k σ τ w q, R (k + 1) σ τ → (c 3 = true → (gp_put σ w q).1 = (gp_put τ w q).1) ∧ R k (gp_put σ w q).2 (gp_put τ w q).2) ∧ (∀ k σ τ, R (k + 1) σ τ → (c 4 = true → (gp_begin σ).1 = (gp_begin τ).1) ∧ R k (gp_begin σ).2 (gp_begin τ).2) ∧ (∀ k σ τ, R (k + 1) σ τ → gs_kok σ.1 ∧ ∃ v τ', gl_RD τ v τ' ∧ (c 5 = true → (gp_read σ).1 = v) ∧ R k (gp_read σ).2 τ') ∧ (∀ k σ τ, R (k + 1) σ τ → (c 6 = true → (gp_pass σ).1 = (gp_pass τ).1) ∧ R k (gp_pass σ).2 (gp_pass τ).2) ∧ (∀ k σ τ u w, R (k + 1) σ τ → c 7 = true → gs_object σ.2.1 u w = gs_object τ.2.1 u w) ∧ (∀ k σ τ u w, R (k + 1) σ τ → c 8 = true → gs_value σ.2.1 u w = gs_value τ.2.1 u w) ∧ (∀ k σ τ w, R (k + 1) σ τ → c 9 = true → gs_count σ.1 σ.2.1 σ.2.2 w = gs_count τ.1 τ.2.1 τ.2.2 w) ∧ (∀ k σ τ, R (k + 1) σ τ → R k σ τ)
theorem gl_St.define {c : Nat → Bool} {R : Nat → gp_s → gp_s → Prop} (h : gl_St c R) : ∀ k σ τ n q u id, R (k + 1) σ τ → (c 0 = true → (gp_define σ n q u id).1 = (gp_define τ n q u id).1) ∧ R k (gp_define σ n q u id).2 (gp_define τ n q u id).2 := h.1
theorem gl_St.field {c : Nat → Bool} {R : Nat → gp_s → gp_s → Prop} (h : gl_St c R) : ∀ k σ τ n q u, R (k + 1) σ τ → (c 1 = true → (gp_field σ n q u).1 = (gp_field τ n q u).1) ∧ R k (gp_field σ n q u).2 (gp_field τ n q u).2 := h.2.1
theorem gl_St.constant {c : Nat → Bool} {R : Nat → gp_s → gp_s → Prop} (h : gl_St c R) : ∀ k σ τ n q u, R (k + 1) σ τ → (c 2 = true → (gp_constant σ n q u).1 = (gp_constant τ n q u).1) ∧ R k (gp_constant σ n q u).2 (gp_constant τ n q u).2 := h.2.2.1
theorem gl_St.put {c : Nat → Bool} {R : Nat → gp_s → gp_s → Prop} (h : gl_St c R) : ∀ k σ τ w q, R (k + 1) σ τ → (c 3 = true → (gp_put σ w q).1 = (gp_put τ w q).1) ∧ R k (gp_put σ w q).2 (gp_put τ w q).2 := h.2.2.2.1
theorem gl_St.begin {c : Nat → Bool} {R : Nat → gp_s → gp_s → Prop} (h : gl_St c R) : ∀ k σ τ, R (k + 1) σ τ → (c 4 = true → (gp_begin σ).1 = (gp_begin τ).1) ∧ R k (gp_begin σ).2 (gp_begin τ).2 := h.2.2.2.2.1
theorem gl_St.read {c : Nat → Bool} {R : Nat → gp_s → gp_s → Prop} (h : gl_St c R) : ∀ k σ τ, R (k + 1) σ τ → gs_kok σ.1 ∧ ∃ v τ', gl_RD τ v τ' ∧ (c 5 = true → (gp_read σ).1 = v) ∧ R k (gp_read σ).2 τ' := h.2.2.2.2.2.1
theorem gl_St.pass {c : Nat → Bool} {R : Nat → gp_s → gp_s → Prop} (h : gl_St c R) : ∀ k σ τ, R (k + 1) σ τ → (c 6 = true → (gp_pass σ).1 = (gp_pass τ).1) ∧ R k (gp_pass σ).2 (gp_pass τ).2 := h.2.2.2.2.2.2.1
theorem gl_St.object {c : Nat → Bool} {R : Nat → gp_s → gp_s → Prop} (h : gl_St c R) : ∀ k σ τ u w, R (k + 1) σ τ → c 7 = true → gs_object σ.2.1 u w = gs_object τ.2.1 u w := h.2.2.2.2.2.2.2.1
theorem gl_St.value {c : Nat → Bool} {R : Nat → gp_s → gp_s → Prop} (h : gl_St c R) : ∀ k σ τ u w, R (k + 1) σ τ → c 8 = true → gs_value σ.2.1 u w = gs_value τ.2.1 u w := h.2.2.2.2.2.2.2.2.1
theorem gl_St.count {c : Nat → Bool} {R : Nat → gp_s → gp_s → Prop} (h : gl_St c R) : ∀ k σ τ w, R (k + 1) σ τ → c 9 = true → gs_count σ.1 σ.2.1 σ.2.2 w = gs_count τ.1 τ.2.1 τ.2.2 w := h.2.2.2.2.2.2.2.2.2.1
theorem gl_St.less {c : Nat → Bool} {R : Nat → gp_s → gp_s → Prop} (h : gl_St c R) : ∀ k σ τ, R (k + 1) σ τ → R k σ τ := h.2.2.2.2.2.2.2.2.2.2
end LB
/-! THE LAW, 3 (by genlaw.py): each case of its switch. -/
/-- the answers that are compared -/
def gl_c : Nat → Bool
  | 0 => false
  | 1 => false
  | 2 => false
  | 3 => false
  | 4 => false
  | 5 => false
  | 6 => false
  | 7 => false
  | 8 => true
  | 9 => false
  | _ => false
theorem nI_k {i : Nat} : nI i + 1 = nI (i + 1) ∧ nI i + 2 = nI (i + 2) ∧ nI i + 3 = nI (i + 3) ∧ nI i + 4 = nI (i + 4) ∧ nI i + 5 = nI (i + 5) := ⟨nI_add i 1, nI_add i 2, nI_add i 3, nI_add i 4, nI_add i 5⟩
section LC
theorem gl_sub {n : Nat} (h : 6 ≤ n) : nI n - 6 = nI (n - 6) := by
  obtain ⟨j, rfl⟩ : ∃ j, n = j + 6 := ⟨n - 6, by omega⟩
  rw [← nI_add, show j + 6 - 6 = j by omega]
  show nI j + nI 6 - nI 6 = nI j
  exact Int32.add_sub_cancel _ _
variable {E : Nat → Value} {b x m C S d i k : Nat} {xs : List Int32} {H : gm_H} {σ τ : gp_s} {R : Nat → gp_s → gp_s → Prop} {Q : gm_R → gm_H → Prop}
theorem gl_sc {h : gm_H} (e : gm_rd h b = some (300, xs.map .int)) : gm_kd h b = 300 ∧ gm_ln h b = xs.length ∧ ∀ j, j < xs.length → gm_fv h b j = .int (xs.getD j 0) := by
  refine ⟨?_, ?_, fun j hj => ?_⟩
  · unfold gm_kd; rw [e]; rfl
  · unfold gm_ln; rw [e]; simp
  · unfold gm_fv; rw [e]; simp [List.getD, hj]
theorem gl_I.scr (I : gl_I E b xs x m C S σ τ H) (hx : xs.length ≤ 100000) (hi : i + 6 ≤ xs.length) : gm_kd H b = 300 ∧ gm_ln H b = xs.length ∧ i < xs.length ∧ i + 1 < xs.length ∧ i + 2 < xs.length ∧ i + 3 < xs.length ∧ i + 4 < xs.length ∧ i + 5 < xs.length ∧ gm_fv H b i = .int (xs.getD i 0) ∧ gm_fv H b (i + 1) = .int (xs.getD (i + 1) 0) ∧ gm_fv H b (i + 2) = .int (xs.getD (i + 2) 0) ∧ gm_fv H b (i + 3) = .int (xs.getD (i + 3) 0) ∧ gm_fv H b (i + 4) = .int (xs.getD (i + 4) 0) ∧ gm_fv H b (i + 5) = .int (xs.getD (i + 5) 0) := by
  obtain ⟨e1, e2, e3⟩ := gl_sc I.1.2.1
  exact ⟨e1, e2, by omega, by omega, by omega, by omega, by omega, by omega, e3 _ (by omega), e3 _ (by omega), e3 _ (by omega), e3 _ (by omega), e3 _ (by omega), e3 _ (by omega)⟩
theorem gl_wdefine (hd : 400 ≤ d) (hx : xs.length ≤ 100000) (I : gl_I E b xs x m C S σ τ H) (hi : i + 6 ≤ xs.length) (St : gl_St gl_c R) (hR : R (k + 1) σ τ) (go : ∀ (H' : gm_H) (σ' τ' : gp_s), R k σ' τ' → gl_I E b xs x m (C + 710) (S + 5700) σ' τ' H' → gm_W E d 0 505 [.ref b, .ref x, .ref m, .int (nI i)] [] H' Q) : gm_W E d 0 128 [.ref b, .ref x, .ref m, .int (nI i)] [] H Q := by
  obtain ⟨a1, a2, a3, a4, a5⟩ := nI_k (i := i)
  have hx2 : xs.length < 2147483648 := by omega
  obtain ⟨ka, na, l0, l1, l2, l3, l4, l5, va0, va1, va2, va3, va4, va5⟩ := I.scr hx hi
  simp only [r0_128, r0_128n, r0_129, r0_129n, r0_130, r0_131, r0_132, r0_133, r0_134, r0_134n, r0_135, r0_136, r0_137, r0_138, r0_139, r0_139n, r0_140, r0_141, r0_142, r0_143, r0_144, r0_144n, r0_145, r0_146, r0_147, r0_148, r0_149, r0_150, r0_152, r0_153, r0_153n, r0_154, r0_155, r0_156, r0_157, r0_158, r0_159, r0_162, r0_163, i32_10, reduceIte, gm_cmp1, gm_cmp3, gm_cmp4, gm_kd_sf, gm_ln_sf, gm_sf_1, gm_sf_2, gm_nw_1, gm_nw_2, gm_k_int, gm_k_ref, gm_k_null, gm_k_u, gm_k_long, and_true, true_and, true_or, or_true, or_false, false_or, and_self, or_self, if_true, if_false, List.map_nil, List.map_cons, List.sum_nil, List.sum_cons, Nat.zero_le, Option.toList_some, Option.toList_none, List.cons_append, List.nil_append, ne_eq, not_false_eq_true, not_true_eq_false, nI_1, nI_add, Value.category, Nat.reduceAdd, Nat.reduceMod, Nat.reduceLeDiff, Nat.reduceLT, Nat.reduceEqDiff, Nat.reducePow, Nat.le_refl, Nat.add_left_cancel_iff, Nat.add_eq_left, Nat.left_eq_add, Nat.add_zero, ka, na, hx2, l0, l1, l2, l3, l4, l5, va0, va1, va2, va3, va4, va5, a1, a2, a3, a4, a5]
  refine c0_164 (by simp [Value.category]) I.kx (by omega) (gl_cx.to (gl_xdefine (by omega) I.2.1) I m52 (by decide) (by decide)) (gl_kn (fun H1 I1 => ?_)) gl_kx
  obtain ⟨kb, nb, l0, l1, l2, l3, l4, l5, vb0, vb1, vb2, vb3, vb4, vb5⟩ := I1.scr hx hi
  simp only [r0_167, r0_167a, r0_167n, r0_168, r0_168n, r0_169, r0_169n, r0_170, r0_171, r0_172, r0_173, r0_174, r0_174n, r0_175, r0_176, r0_177, r0_178, r0_179, r0_179n, r0_180, r0_181, r0_182, r0_183, r0_184, r0_184n, r0_185, r0_186, r0_187, r0_188, r0_189, r0_190, r0_192, r0_193, r0_193n, r0_194, r0_195, r0_196, r0_197, r0_198, r0_199, r0_202, r0_203, i32_10, reduceIte, gm_cmp1, gm_cmp3, gm_cmp4, gm_kd_sf, gm_ln_sf, gm_sf_1, gm_sf_2, gm_nw_1, gm_nw_2, gm_k_int, gm_k_ref, gm_k_null, gm_k_u, gm_k_long, and_true, true_and, true_or, or_true, or_false, false_or, and_self, or_self, if_true, if_false, List.map_nil, List.map_cons, List.sum_nil, List.sum_cons, Nat.zero_le, Option.toList_some, Option.toList_none, List.cons_append, List.nil_append, ne_eq, not_false_eq_true, not_true_eq_false, nI_1, nI_add, Value.category, Nat.reduceAdd, Nat.reduceMod, Nat.reduceLeDiff, Nat.reduceLT, Nat.reduceEqDiff, Nat.reducePow, Nat.le_refl, Nat.add_left_cancel_iff, Nat.add_eq_left, Nat.left_eq_add, Nat.add_zero, kb, nb, hx2, l0, l1, l2, l3, l4, l5, vb0, vb1, vb2, vb3, vb4, vb5, a1, a2, a3, a4, a5]
  refine c0_204 (by simp [Value.category]) I1.km (by omega) (gl_cm.to (gl_mdefine (by omega)) I1 m6 (by decide) (by decide)) (gl_kn (fun H2 I2 => ?_)) gl_kx
  simp only [Option.toList_some, List.cons_append, List.nil_append]
  simp only [r0_207, r0_207a, r0_207n, r0_208, i32_10, reduceIte, gm_cmp1, gm_cmp3, gm_cmp4, gm_kd_sf, gm_ln_sf, gm_sf_1, gm_sf_2, gm_nw_1, gm_nw_2, gm_k_int, gm_k_ref, gm_k_null, gm_k_u, gm_k_long, and_true, true_and, true_or, or_true, or_false, false_or, and_self, or_self, if_true, if_false, List.map_nil, List.map_cons, List.sum_nil, List.sum_cons, Nat.zero_le, Option.toList_some, Option.toList_none, List.cons_append, List.nil_append, ne_eq, not_false_eq_true, not_true_eq_false, nI_1, nI_add, Value.category, Nat.reduceAdd, Nat.reduceMod, Nat.reduceLeDiff, Nat.reduceLT, Nat.reduceEqDiff, Nat.reducePow, Nat.le_refl, Nat.add_left_cancel_iff, Nat.add_eq_left, Nat.left_eq_add, Nat.add_zero, eq_self]
  exact go _ _ _ (St.define k σ τ _ _ _ _ hR).2 I2
theorem gl_wfield (hd : 400 ≤ d) (hx : xs.length ≤ 100000) (I : gl_I E b xs x m C S σ τ H) (hi : i + 6 ≤ xs.length) (St : gl_St gl_c R) (hR : R (k + 1) σ τ) (go : ∀ (H' : gm_H) (σ' τ' : gp_s), R k σ' τ' → gl_I E b xs x m (C + 710) (S + 5700) σ' τ' H' → gm_W E d 0 505 [.ref b, .ref x, .ref m, .int (nI i)] [] H' Q) : gm_W E d 0 211 [.ref b, .ref x, .ref m, .int (nI i)] [] H Q := by
  obtain ⟨a1, a2, a3, a4, a5⟩ := nI_k (i := i)
  have hx2 : xs.length < 2147483648 := by omega
  obtain ⟨ka, na, l0, l1, l2, l3, l4, l5, va0, va1, va2, va3, va4, va5⟩ := I.scr hx hi
  simp only [r0_211, r0_211n, r0_212, r0_212n, r0_213, r0_214, r0_215, r0_216, r0_217, r0_217n, r0_218, r0_219, r0_220, r0_221, r0_222, r0_222n, r0_223, r0_224, r0_225, r0_226, i32_10, reduceIte, gm_cmp1, gm_cmp3, gm_cmp4, gm_kd_sf, gm_ln_sf, gm_sf_1, gm_sf_2, gm_nw_1, gm_nw_2, gm_k_int, gm_k_ref, gm_k_null, gm_k_u, gm_k_long, and_true, true_and, true_or, or_true, or_false, false_or, and_self, or_self, if_true, if_false, List.map_nil, List.map_cons, List.sum_nil, List.sum_cons, Nat.zero_le, Option.toList_some, Option.toList_none, List.cons_append, List.nil_append, ne_eq, not_false_eq_true, not_true_eq_false, nI_1, nI_add, Value.category, Nat.reduceAdd, Nat.reduceMod, Nat.reduceLeDiff, Nat.reduceLT, Nat.reduceEqDiff, Nat.reducePow, Nat.le_refl, Nat.add_left_cancel_iff, Nat.add_eq_left, Nat.left_eq_add, Nat.add_zero, ka, na, hx2, l0, l1, l2, l3, l4, l5, va0, va1, va2, va3, va4, va5, a1, a2, a3, a4, a5]
  refine c0_227 (by simp [Value.category]) I.kx (by omega) (gl_cx.to (gl_xfield (by omega) I.2.1) I m53 (by decide) (by decide)) (gl_kn (fun H1 I1 => ?_)) gl_kx
  obtain ⟨kb, nb, l0, l1, l2, l3, l4, l5, vb0, vb1, vb2, vb3, vb4, vb5⟩ := I1.scr hx hi
  simp only [r0_230, r0_230a, r0_230n, r0_231, r0_231n, r0_232, r0_232n, r0_233, r0_234, r0_235, r0_236, r0_237, r0_237n, r0_238, r0_239, r0_240, r0_241, r0_242, r0_242n, r0_243, r0_244, r0_245, r0_246, i32_10, reduceIte, gm_cmp1, gm_cmp3, gm_cmp4, gm_kd_sf, gm_ln_sf, gm_sf_1, gm_sf_2, gm_nw_1, gm_nw_2, gm_k_int, gm_k_ref, gm_k_null, gm_k_u, gm_k_long, and_true, true_and, true_or, or_true, or_false, false_or, and_self, or_self, if_true, if_false, List.map_nil, List.map_cons, List.sum_nil, List.sum_cons, Nat.zero_le, Option.toList_some, Option.toList_none, List.cons_append, List.nil_append, ne_eq, not_false_eq_true, not_true_eq_false, nI_1, nI_add, Value.category, Nat.reduceAdd, Nat.reduceMod, Nat.reduceLeDiff, Nat.reduceLT, Nat.reduceEqDiff, Nat.reducePow, Nat.le_refl, Nat.add_left_cancel_iff, Nat.add_eq_left, Nat.left_eq_add, Nat.add_zero, kb, nb, hx2, l0, l1, l2, l3, l4, l5, vb0, vb1, vb2, vb3, vb4, vb5, a1, a2, a3, a4, a5]
  refine c0_247 (by simp [Value.category]) I1.km (by omega) (gl_cm.to (gl_mfield (by omega)) I1 m7 (by decide) (by decide)) (gl_kn (fun H2 I2 => ?_)) gl_kx
  simp only [Option.toList_some, List.cons_append, List.nil_append]
  simp only [r0_250, r0_250a, r0_250n, r0_251, i32_10, reduceIte, gm_cmp1, gm_cmp3, gm_cmp4, gm_kd_sf, gm_ln_sf, gm_sf_1, gm_sf_2, gm_nw_1, gm_nw_2, gm_k_int, gm_k_ref, gm_k_null, gm_k_u, gm_k_long, and_true, true_and, true_or, or_true, or_false, false_or, and_self, or_self, if_true, if_false, List.map_nil, List.map_cons, List.sum_nil, List.sum_cons, Nat.zero_le, Option.toList_some, Option.toList_none, List.cons_append, List.nil_append, ne_eq, not_false_eq_true, not_true_eq_false, nI_1, nI_add, Value.category, Nat.reduceAdd, Nat.reduceMod, Nat.reduceLeDiff, Nat.reduceLT, Nat.reduceEqDiff, Nat.reducePow, Nat.le_refl, Nat.add_left_cancel_iff, Nat.add_eq_left, Nat.left_eq_add, Nat.add_zero, eq_self]
  exact go _ _ _ (St.field k σ τ _ _ _ hR).2 I2
theorem gl_wconstant (hd : 400 ≤ d) (hx : xs.length ≤ 100000) (I : gl_I E b xs x m C S σ τ H) (hi : i + 6 ≤ xs.length) (St : gl_St gl_c R) (hR : R (k + 1) σ τ) (go : ∀ (H' : gm_H) (σ' τ' : gp_s), R k σ' τ' → gl_I E b xs x m (C + 710) (S + 5700) σ' τ' H' → gm_W E d 0 505 [.ref b, .ref x, .ref m, .int (nI i)] [] H' Q) : gm_W E d 0 254 [.ref b, .ref x, .ref m, .int (nI i)] [] H Q := by
  obtain ⟨a1, a2, a3, a4, a5⟩ := nI_k (i := i)
  by_cases z : xs.getD (i + 3) 0 = 0
  · skip
    have hx2 : xs.length < 2147483648 := by omega
    obtain ⟨ka, na, l0, l1, l2, l3, l4, l5, va0, va1, va2, va3, va4, va5⟩ := I.scr hx hi
    simp only [r0_254, r0_254n, r0_255, r0_255n, r0_256, r0_257, r0_258, r0_259, r0_260, r0_260n, r0_261, r0_262, r0_263, r0_264, r0_265, r0_265n, r0_266, r0_267, r0_268, r0_269, r0_270, r0_273, r0_274, r0_277, i32_10, reduceIte, gm_cmp1, gm_cmp3, gm_cmp4, gm_kd_sf, gm_ln_sf, gm_sf_1, gm_sf_2, gm_nw_1, gm_nw_2, gm_k_int, gm_k_ref, gm_k_null, gm_k_u, gm_k_long, and_true, true_and, true_or, or_true, or_false, false_or, and_self, or_self, if_true, if_false, List.map_nil, List.map_cons, List.sum_nil, List.sum_cons, Nat.zero_le, Option.toList_some, Option.toList_none, List.cons_append, List.nil_append, ne_eq, not_false_eq_true, not_true_eq_false, nI_1, nI_add, Value.category, Nat.reduceAdd, Nat.reduceMod, Nat.reduceLeDiff, Nat.reduceLT, Nat.reduceEqDiff, Nat.reducePow, Nat.le_refl, Nat.add_left_cancel_iff, Nat.add_eq_left, Nat.left_eq_add, Nat.add_zero, ka, na, hx2, l0, l1, l2, l3, l4, l5, va0, va1, va2, va3, va4, va5, a1, a2, a3, a4, a5, z]
    refine c0_278 (by simp [Value.category]) I.kx (by omega) (gl_cx.to (gl_xconstant (by omega) (Or.inl rfl) I.2.1) I m54 (by decide) (by decide)) (gl_kn (fun H1 I1 => ?_)) gl_kx
    obtain ⟨kb, nb, l0, l1, l2, l3, l4, l5, vb0, vb1, vb2, vb3, vb4, vb5⟩ := I1.scr hx hi
    simp only [r0_281, r0_281a, r0_281n, r0_282, r0_282n, r0_283, r0_283n, r0_284, r0_285, r0_286, r0_287, r0_288, r0_288n, r0_289, r0_290, r0_291, r0_292, r0_293, r0_293n, r0_294, r0_295, r0_296, r0_297, r0_298, r0_301, r0_302, r0_305, i32_10, reduceIte, gm_cmp1, gm_cmp3, gm_cmp4, gm_kd_sf, gm_ln_sf, gm_sf_1, gm_sf_2, gm_nw_1, gm_nw_2, gm_k_int, gm_k_ref, gm_k_null, gm_k_u, gm_k_long, and_true, true_and, true_or, or_true, or_false, false_or, and_self, or_self, if_true, if_false, List.map_nil, List.map_cons, List.sum_nil, List.sum_cons, Nat.zero_le, Option.toList_some, Option.toList_none, List.cons_append, List.nil_append, ne_eq, not_false_eq_true, not_true_eq_false, nI_1, nI_add, Value.category, Nat.reduceAdd, Nat.reduceMod, Nat.reduceLeDiff, Nat.reduceLT, Nat.reduceEqDiff, Nat.reducePow, Nat.le_refl, Nat.add_left_cancel_iff, Nat.add_eq_left, Nat.left_eq_add, Nat.add_zero, kb, nb, hx2, l0, l1, l2, l3, l4, l5, vb0, vb1, vb2, vb3, vb4, vb5, a1, a2, a3, a4, a5, z]
    refine c0_306 (by simp [Value.category]) I1.km (by omega) (gl_cm.to (gl_mconstant (by omega) (Or.inl rfl)) I1 m8 (by decide) (by decide)) (gl_kn (fun H2 I2 => ?_)) gl_kx
    simp only [Option.toList_some, List.cons_append, List.nil_append]
    simp only [r0_309, r0_309a, r0_309n, r0_310, i32_10, reduceIte, gm_cmp1, gm_cmp3, gm_cmp4, gm_kd_sf, gm_ln_sf, gm_sf_1, gm_sf_2, gm_nw_1, gm_nw_2, gm_k_int, gm_k_ref, gm_k_null, gm_k_u, gm_k_long, and_true, true_and, true_or, or_true, or_false, false_or, and_self, or_self, if_true, if_false, List.map_nil, List.map_cons, List.sum_nil, List.sum_cons, Nat.zero_le, Option.toList_some, Option.toList_none, List.cons_append, List.nil_append, ne_eq, not_false_eq_true, not_true_eq_false, nI_1, nI_add, Value.category, Nat.reduceAdd, Nat.reduceMod, Nat.reduceLeDiff, Nat.reduceLT, Nat.reduceEqDiff, Nat.reducePow, Nat.le_refl, Nat.add_left_cancel_iff, Nat.add_eq_left, Nat.left_eq_add, Nat.add_zero, eq_self]
    exact go _ _ _ (St.constant k σ τ _ _ _ hR).2 I2
  · skip
    have hx2 : xs.length < 2147483648 := by omega
    obtain ⟨ka, na, l0, l1, l2, l3, l4, l5, va0, va1, va2, va3, va4, va5⟩ := I.scr hx hi
    simp only [r0_254, r0_254n, r0_255, r0_255n, r0_256, r0_257, r0_258, r0_259, r0_260, r0_260n, r0_261, r0_262, r0_263, r0_264, r0_265, r0_265n, r0_266, r0_267, r0_268, r0_269, r0_270, r0_273, r0_274, r0_277, i32_10, reduceIte, gm_cmp1, gm_cmp3, gm_cmp4, gm_kd_sf, gm_ln_sf, gm_sf_1, gm_sf_2, gm_nw_1, gm_nw_2, gm_k_int, gm_k_ref, gm_k_null, gm_k_u, gm_k_long, and_true, true_and, true_or, or_true, or_false, false_or, and_self, or_self, if_true, if_false, List.map_nil, List.map_cons, List.sum_nil, List.sum_cons, Nat.zero_le, Option.toList_some, Option.toList_none, List.cons_append, List.nil_append, ne_eq, not_false_eq_true, not_true_eq_false, nI_1, nI_add, Value.category, Nat.reduceAdd, Nat.reduceMod, Nat.reduceLeDiff, Nat.reduceLT, Nat.reduceEqDiff, Nat.reducePow, Nat.le_refl, Nat.add_left_cancel_iff, Nat.add_eq_left, Nat.left_eq_add, Nat.add_zero, ka, na, hx2, l0, l1, l2, l3, l4, l5, va0, va1, va2, va3, va4, va5, a1, a2, a3, a4, a5, z]
    refine c0_278 (by simp [Value.category]) I.kx (by omega) (gl_cx.to (gl_xconstant (by omega) (Or.inr rfl) I.2.1) I m54 (by decide) (by decide)) (gl_kn (fun H1 I1 => ?_)) gl_kx
    obtain ⟨kb, nb, l0, l1, l2, l3, l4, l5, vb0, vb1, vb2, vb3, vb4, vb5⟩ := I1.scr hx hi
    simp only [r0_281, r0_281a, r0_281n, r0_282, r0_282n, r0_283, r0_283n, r0_284, r0_285, r0_286, r0_287, r0_288, r0_288n, r0_289, r0_290, r0_291, r0_292, r0_293, r0_293n, r0_294, r0_295, r0_296, r0_297, r0_298, r0_301, r0_302, r0_305, i32_10, reduceIte, gm_cmp1, gm_cmp3, gm_cmp4, gm_kd_sf, gm_ln_sf, gm_sf_1, gm_sf_2, gm_nw_1, gm_nw_2, gm_k_int, gm_k_ref, gm_k_null, gm_k_u, gm_k_long, and_true, true_and, true_or, or_true, or_false, false_or, and_self, or_self, if_true, if_false, List.map_nil, List.map_cons, List.sum_nil, List.sum_cons, Nat.zero_le, Option.toList_some, Option.toList_none, List.cons_append, List.nil_append, ne_eq, not_false_eq_true, not_true_eq_false, nI_1, nI_add, Value.category, Nat.reduceAdd, Nat.reduceMod, Nat.reduceLeDiff, Nat.reduceLT, Nat.reduceEqDiff, Nat.reducePow, Nat.le_refl, Nat.add_left_cancel_iff, Nat.add_eq_left, Nat.left_eq_add, Nat.add_zero, kb, nb, hx2, l0, l1, l2, l3, l4, l5, vb0, vb1, vb2, vb3, vb4, vb5, a1, a2, a3, a4, a5, z]
    refine c0_306 (by simp [Value.category]) I1.km (by omega) (gl_cm.to (gl_mconstant (by omega) (Or.inr rfl)) I1 m8 (by decide) (by decide)) (gl_kn (fun H2 I2 => ?_)) gl_kx
    simp only [Option.toList_some, List.cons_append, List.nil_append]
    simp only [r0_309, r0_309a, r0_309n, r0_310, i32_10, reduceIte, gm_cmp1, gm_cmp3, gm_cmp4, gm_kd_sf, gm_ln_sf, gm_sf_1, gm_sf_2, gm_nw_1, gm_nw_2, gm_k_int, gm_k_ref, gm_k_null, gm_k_u, gm_k_long, and_true, true_and, true_or, or_true, or_false, false_or, and_self, or_self, if_true, if_false, List.map_nil, List.map_cons, List.sum_nil, List.sum_cons, Nat.zero_le, Option.toList_some, Option.toList_none, List.cons_append, List.nil_append, ne_eq, not_false_eq_true, not_true_eq_false, nI_1, nI_add, Value.category, Nat.reduceAdd, Nat.reduceMod, Nat.reduceLeDiff, Nat.reduceLT, Nat.reduceEqDiff, Nat.reducePow, Nat.le_refl, Nat.add_left_cancel_iff, Nat.add_eq_left, Nat.left_eq_add, Nat.add_zero, eq_self]
    exact go _ _ _ (St.constant k σ τ _ _ _ hR).2 I2
theorem gl_wput (hd : 400 ≤ d) (hx : xs.length ≤ 100000) (I : gl_I E b xs x m C S σ τ H) (hi : i + 6 ≤ xs.length) (St : gl_St gl_c R) (hR : R (k + 1) σ τ) (go : ∀ (H' : gm_H) (σ' τ' : gp_s), R k σ' τ' → gl_I E b xs x m (C + 710) (S + 5700) σ' τ' H' → gm_W E d 0 505 [.ref b, .ref x, .ref m, .int (nI i)] [] H' Q) : gm_W E d 0 313 [.ref b, .ref x, .ref m, .int (nI i)] [] H Q := by
  obtain ⟨a1, a2, a3, a4, a5⟩ := nI_k (i := i)
  have hx2 : xs.length < 2147483648 := by omega
  obtain ⟨ka, na, l0, l1, l2, l3, l4, l5, va0, va1, va2, va3, va4, va5⟩ := I.scr hx hi
  simp only [r0_313, r0_313n, r0_314, r0_314n, r0_315, r0_316, r0_317, r0_318, r0_319, r0_320, r0_322, r0_323, r0_323n, r0_324, r0_325, r0_326, r0_327, r0_328, r0_329, r0_332, r0_333, r0_334, r0_334n, r0_335, r0_336, r0_337, r0_338, i32_10, reduceIte, gm_cmp1, gm_cmp3, gm_cmp4, gm_kd_sf, gm_ln_sf, gm_sf_1, gm_sf_2, gm_nw_1, gm_nw_2, gm_k_int, gm_k_ref, gm_k_null, gm_k_u, gm_k_long, and_true, true_and, true_or, or_true, or_false, false_or, and_self, or_self, if_true, if_false, List.map_nil, List.map_cons, List.sum_nil, List.sum_cons, Nat.zero_le, Option.toList_some, Option.toList_none, List.cons_append, List.nil_append, ne_eq, not_false_eq_true, not_true_eq_false, nI_1, nI_add, Value.category, Nat.reduceAdd, Nat.reduceMod, Nat.reduceLeDiff, Nat.reduceLT, Nat.reduceEqDiff, Nat.reducePow, Nat.le_refl, Nat.add_left_cancel_iff, Nat.add_eq_left, Nat.left_eq_add, Nat.add_zero, ka, na, hx2, l0, l1, l2, l3, l4, l5, va0, va1, va2, va3, va4, va5, a1, a2, a3, a4, a5]
  refine c0_339 (by simp [Value.category]) I.kx (by omega) (gl_cx.to (gl_xput I.2.1) I m55 (by decide) (by decide)) (gl_kn (fun H1 I1 => ?_)) gl_kx
  obtain ⟨kb, nb, l0, l1, l2, l3, l4, l5, vb0, vb1, vb2, vb3, vb4, vb5⟩ := I1.scr hx hi
  simp only [r0_342, r0_342a, r0_342n, r0_343, r0_343n, r0_344, r0_344n, r0_345, r0_346, r0_347, r0_348, r0_349, r0_350, r0_352, r0_353, r0_353n, r0_354, r0_355, r0_356, r0_357, r0_358, r0_359, r0_362, r0_363, r0_364, r0_364n, r0_365, r0_366, r0_367, r0_368, i32_10, reduceIte, gm_cmp1, gm_cmp3, gm_cmp4, gm_kd_sf, gm_ln_sf, gm_sf_1, gm_sf_2, gm_nw_1, gm_nw_2, gm_k_int, gm_k_ref, gm_k_null, gm_k_u, gm_k_long, and_true, true_and, true_or, or_true, or_false, false_or, and_self, or_self, if_true, if_false, List.map_nil, List.map_cons, List.sum_nil, List.sum_cons, Nat.zero_le, Option.toList_some, Option.toList_none, List.cons_append, List.nil_append, ne_eq, not_false_eq_true, not_true_eq_false, nI_1, nI_add, Value.category, Nat.reduceAdd, Nat.reduceMod, Nat.reduceLeDiff, Nat.reduceLT, Nat.reduceEqDiff, Nat.reducePow, Nat.le_refl, Nat.add_left_cancel_iff, Nat.add_eq_left, Nat.left_eq_add, Nat.add_zero, kb, nb, hx2, l0, l1, l2, l3, l4, l5, vb0, vb1, vb2, vb3, vb4, vb5, a1, a2, a3, a4, a5]
  refine c0_369 (by simp [Value.category]) I1.km (by omega) (gl_cm.to gl_mput I1 m9 (by decide) (by decide)) (gl_kn (fun H2 I2 => ?_)) gl_kx
  simp only [Option.toList_some, List.cons_append, List.nil_append]
  simp only [r0_372, r0_372a, r0_372n, r0_373, i32_10, reduceIte, gm_cmp1, gm_cmp3, gm_cmp4, gm_kd_sf, gm_ln_sf, gm_sf_1, gm_sf_2, gm_nw_1, gm_nw_2, gm_k_int, gm_k_ref, gm_k_null, gm_k_u, gm_k_long, and_true, true_and, true_or, or_true, or_false, false_or, and_self, or_self, if_true, if_false, List.map_nil, List.map_cons, List.sum_nil, List.sum_cons, Nat.zero_le, Option.toList_some, Option.toList_none, List.cons_append, List.nil_append, ne_eq, not_false_eq_true, not_true_eq_false, nI_1, nI_add, Value.category, Nat.reduceAdd, Nat.reduceMod, Nat.reduceLeDiff, Nat.reduceLT, Nat.reduceEqDiff, Nat.reducePow, Nat.le_refl, Nat.add_left_cancel_iff, Nat.add_eq_left, Nat.left_eq_add, Nat.add_zero, eq_self]
  exact go _ _ _ (St.put k σ τ _ _ hR).2 I2
theorem gl_wbegin (hd : 400 ≤ d) (hx : xs.length ≤ 100000) (I : gl_I E b xs x m C S σ τ H) (hi : i + 6 ≤ xs.length) (St : gl_St gl_c R) (hR : R (k + 1) σ τ) (go : ∀ (H' : gm_H) (σ' τ' : gp_s), R k σ' τ' → gl_I E b xs x m (C + 710) (S + 5700) σ' τ' H' → gm_W E d 0 505 [.ref b, .ref x, .ref m, .int (nI i)] [] H' Q) : gm_W E d 0 376 [.ref b, .ref x, .ref m, .int (nI i)] [] H Q := by
  obtain ⟨a1, a2, a3, a4, a5⟩ := nI_k (i := i)
  have hx2 : xs.length < 2147483648 := by omega
  obtain ⟨ka, na, l0, l1, l2, l3, l4, l5, va0, va1, va2, va3, va4, va5⟩ := I.scr hx hi
  simp only [r0_376, r0_376n, i32_10, reduceIte, gm_cmp1, gm_cmp3, gm_cmp4, gm_kd_sf, gm_ln_sf, gm_sf_1, gm_sf_2, gm_nw_1, gm_nw_2, gm_k_int, gm_k_ref, gm_k_null, gm_k_u, gm_k_long, and_true, true_and, true_or, or_true, or_false, false_or, and_self, or_self, if_true, if_false, List.map_nil, List.map_cons, List.sum_nil, List.sum_cons, Nat.zero_le, Option.toList_some, Option.toList_none, List.cons_append, List.nil_append, ne_eq, not_false_eq_true, not_true_eq_false, nI_1, nI_add, Value.category, Nat.reduceAdd, Nat.reduceMod, Nat.reduceLeDiff, Nat.reduceLT, Nat.reduceEqDiff, Nat.reducePow, Nat.le_refl, Nat.add_left_cancel_iff, Nat.add_eq_left, Nat.left_eq_add, Nat.add_zero, ka, na, hx2, l0, l1, l2, l3, l4, l5, va0, va1, va2, va3, va4, va5, a1, a2, a3, a4, a5]
  refine c0_377 (by simp [Value.category]) I.kx (by omega) (gl_cx.to (gl_xbegin (by omega) I.2.1) I m56 (by decide) (by decide)) (gl_kn (fun H1 I1 => ?_)) gl_kx
  obtain ⟨kb, nb, l0, l1, l2, l3, l4, l5, vb0, vb1, vb2, vb3, vb4, vb5⟩ := I1.scr hx hi
  simp only [r0_380, r0_380a, r0_380n, r0_381, r0_381n, i32_10, reduceIte, gm_cmp1, gm_cmp3, gm_cmp4, gm_kd_sf, gm_ln_sf, gm_sf_1, gm_sf_2, gm_nw_1, gm_nw_2, gm_k_int, gm_k_ref, gm_k_null, gm_k_u, gm_k_long, and_true, true_and, true_or, or_true, or_false, false_or, and_self, or_self, if_true, if_false, List.map_nil, List.map_cons, List.sum_nil, List.sum_cons, Nat.zero_le, Option.toList_some, Option.toList_none, List.cons_append, List.nil_append, ne_eq, not_false_eq_true, not_true_eq_false, nI_1, nI_add, Value.category, Nat.reduceAdd, Nat.reduceMod, Nat.reduceLeDiff, Nat.reduceLT, Nat.reduceEqDiff, Nat.reducePow, Nat.le_refl, Nat.add_left_cancel_iff, Nat.add_eq_left, Nat.left_eq_add, Nat.add_zero, kb, nb, hx2, l0, l1, l2, l3, l4, l5, vb0, vb1, vb2, vb3, vb4, vb5, a1, a2, a3, a4, a5]
  refine c0_382 (by simp [Value.category]) I1.km (by omega) (gl_cm.to (gl_mbegin (by omega)) I1 m14 (by decide) (by decide)) (gl_kn (fun H2 I2 => ?_)) gl_kx
  simp only [Option.toList_some, List.cons_append, List.nil_append]
  simp only [r0_385, r0_385a, r0_385n, r0_386, i32_10, reduceIte, gm_cmp1, gm_cmp3, gm_cmp4, gm_kd_sf, gm_ln_sf, gm_sf_1, gm_sf_2, gm_nw_1, gm_nw_2, gm_k_int, gm_k_ref, gm_k_null, gm_k_u, gm_k_long, and_true, true_and, true_or, or_true, or_false, false_or, and_self, or_self, if_true, if_false, List.map_nil, List.map_cons, List.sum_nil, List.sum_cons, Nat.zero_le, Option.toList_some, Option.toList_none, List.cons_append, List.nil_append, ne_eq, not_false_eq_true, not_true_eq_false, nI_1, nI_add, Value.category, Nat.reduceAdd, Nat.reduceMod, Nat.reduceLeDiff, Nat.reduceLT, Nat.reduceEqDiff, Nat.reducePow, Nat.le_refl, Nat.add_left_cancel_iff, Nat.add_eq_left, Nat.left_eq_add, Nat.add_zero, eq_self]
  exact go _ _ _ (St.begin k σ τ  hR).2 I2
theorem gl_wread (hd : 400 ≤ d) (hx : xs.length ≤ 100000) (I : gl_I E b xs x m C S σ τ H) (hi : i + 6 ≤ xs.length) (St : gl_St gl_c R) (hR : R (k + 1) σ τ) (go : ∀ (H' : gm_H) (σ' τ' : gp_s), R k σ' τ' → gl_I E b xs x m (C + 710) (S + 5700) σ' τ' H' → gm_W E d 0 505 [.ref b, .ref x, .ref m, .int (nI i)] [] H' Q) : gm_W E d 0 389 [.ref b, .ref x, .ref m, .int (nI i)] [] H Q := by
  obtain ⟨a1, a2, a3, a4, a5⟩ := nI_k (i := i)
  obtain ⟨hK, v, τ2, hRD, hcm, hRk⟩ := St.read k σ τ hR
  have hx2 : xs.length < 2147483648 := by omega
  obtain ⟨ka, na, l0, l1, l2, l3, l4, l5, va0, va1, va2, va3, va4, va5⟩ := I.scr hx hi
  simp only [r0_389, r0_389n, i32_10, reduceIte, gm_cmp1, gm_cmp3, gm_cmp4, gm_kd_sf, gm_ln_sf, gm_sf_1, gm_sf_2, gm_nw_1, gm_nw_2, gm_k_int, gm_k_ref, gm_k_null, gm_k_u, gm_k_long, and_true, true_and, true_or, or_true, or_false, false_or, and_self, or_self, if_true, if_false, List.map_nil, List.map_cons, List.sum_nil, List.sum_cons, Nat.zero_le, Option.toList_some, Option.toList_none, List.cons_append, List.nil_append, ne_eq, not_false_eq_true, not_true_eq_false, nI_1, nI_add, Value.category, Nat.reduceAdd, Nat.reduceMod, Nat.reduceLeDiff, Nat.reduceLT, Nat.reduceEqDiff, Nat.reducePow, Nat.le_refl, Nat.add_left_cancel_iff, Nat.add_eq_left, Nat.left_eq_add, Nat.add_zero, ka, na, hx2, l0, l1, l2, l3, l4, l5, va0, va1, va2, va3, va4, va5, a1, a2, a3, a4, a5]
  refine c0_390 (by simp [Value.category]) I.kx (by omega) (gl_cx.to (gl_xread (by omega) hK I.2.1) I m57 (by decide) (by decide)) (gl_kn (fun H1 I1 => ?_)) gl_kx
  obtain ⟨kb, nb, l0, l1, l2, l3, l4, l5, vb0, vb1, vb2, vb3, vb4, vb5⟩ := I1.scr hx hi
  simp only [r0_393, r0_393a, r0_393n, r0_394, r0_394n, i32_10, reduceIte, gm_cmp1, gm_cmp3, gm_cmp4, gm_kd_sf, gm_ln_sf, gm_sf_1, gm_sf_2, gm_nw_1, gm_nw_2, gm_k_int, gm_k_ref, gm_k_null, gm_k_u, gm_k_long, and_true, true_and, true_or, or_true, or_false, false_or, and_self, or_self, if_true, if_false, List.map_nil, List.map_cons, List.sum_nil, List.sum_cons, Nat.zero_le, Option.toList_some, Option.toList_none, List.cons_append, List.nil_append, ne_eq, not_false_eq_true, not_true_eq_false, nI_1, nI_add, Value.category, Nat.reduceAdd, Nat.reduceMod, Nat.reduceLeDiff, Nat.reduceLT, Nat.reduceEqDiff, Nat.reducePow, Nat.le_refl, Nat.add_left_cancel_iff, Nat.add_eq_left, Nat.left_eq_add, Nat.add_zero, kb, nb, hx2, l0, l1, l2, l3, l4, l5, vb0, vb1, vb2, vb3, vb4, vb5, a1, a2, a3, a4, a5]
  refine c0_395 (by simp [Value.category]) I1.km (by omega) (gl_cm.to (hRD E (d - 1) m H1 (by omega)) I1 m46 (by decide) (by decide)) (gl_kn (fun H2 I2 => ?_)) gl_kx
  simp only [Option.toList_some, List.cons_append, List.nil_append]
  simp only [r0_398, r0_398a, r0_398n, r0_399, i32_10, reduceIte, gm_cmp1, gm_cmp3, gm_cmp4, gm_kd_sf, gm_ln_sf, gm_sf_1, gm_sf_2, gm_nw_1, gm_nw_2, gm_k_int, gm_k_ref, gm_k_null, gm_k_u, gm_k_long, and_true, true_and, true_or, or_true, or_false, false_or, and_self, or_self, if_true, if_false, List.map_nil, List.map_cons, List.sum_nil, List.sum_cons, Nat.zero_le, Option.toList_some, Option.toList_none, List.cons_append, List.nil_append, ne_eq, not_false_eq_true, not_true_eq_false, nI_1, nI_add, Value.category, Nat.reduceAdd, Nat.reduceMod, Nat.reduceLeDiff, Nat.reduceLT, Nat.reduceEqDiff, Nat.reducePow, Nat.le_refl, Nat.add_left_cancel_iff, Nat.add_eq_left, Nat.left_eq_add, Nat.add_zero, eq_self]
  exact go _ _ _ hRk I2
theorem gl_wpass (hd : 400 ≤ d) (hx : xs.length ≤ 100000) (I : gl_I E b xs x m C S σ τ H) (hi : i + 6 ≤ xs.length) (St : gl_St gl_c R) (hR : R (k + 1) σ τ) (go : ∀ (H' : gm_H) (σ' τ' : gp_s), R k σ' τ' → gl_I E b xs x m (C + 710) (S + 5700) σ' τ' H' → gm_W E d 0 505 [.ref b, .ref x, .ref m, .int (nI i)] [] H' Q) : gm_W E d 0 402 [.ref b, .ref x, .ref m, .int (nI i)] [] H Q := by
  obtain ⟨a1, a2, a3, a4, a5⟩ := nI_k (i := i)
  have hx2 : xs.length < 2147483648 := by omega
  obtain ⟨ka, na, l0, l1, l2, l3, l4, l5, va0, va1, va2, va3, va4, va5⟩ := I.scr hx hi
  simp only [r0_402, r0_402n, i32_10, reduceIte, gm_cmp1, gm_cmp3, gm_cmp4, gm_kd_sf, gm_ln_sf, gm_sf_1, gm_sf_2, gm_nw_1, gm_nw_2, gm_k_int, gm_k_ref, gm_k_null, gm_k_u, gm_k_long, and_true, true_and, true_or, or_true, or_false, false_or, and_self, or_self, if_true, if_false, List.map_nil, List.map_cons, List.sum_nil, List.sum_cons, Nat.zero_le, Option.toList_some, Option.toList_none, List.cons_append, List.nil_append, ne_eq, not_false_eq_true, not_true_eq_false, nI_1, nI_add, Value.category, Nat.reduceAdd, Nat.reduceMod, Nat.reduceLeDiff, Nat.reduceLT, Nat.reduceEqDiff, Nat.reducePow, Nat.le_refl, Nat.add_left_cancel_iff, Nat.add_eq_left, Nat.left_eq_add, Nat.add_zero, ka, na, hx2, l0, l1, l2, l3, l4, l5, va0, va1, va2, va3, va4, va5, a1, a2, a3, a4, a5]
  refine c0_403 (by simp [Value.category]) I.kx (by omega) (gl_cx.to (gl_xpass (by omega) I.2.1) I m58 (by decide) (by decide)) (gl_kn (fun H1 I1 => ?_)) gl_kx
  obtain ⟨kb, nb, l0, l1, l2, l3, l4, l5, vb0, vb1, vb2, vb3, vb4, vb5⟩ := I1.scr hx hi
  simp only [r0_406, r0_406a, r0_406n, r0_407, r0_407n, i32_10, reduceIte, gm_cmp1, gm_cmp3, gm_cmp4, gm_kd_sf, gm_ln_sf, gm_sf_1, gm_sf_2, gm_nw_1, gm_nw_2, gm_k_int, gm_k_ref, gm_k_null, gm_k_u, gm_k_long, and_true, true_and, true_or, or_true, or_false, false_or, and_self, or_self, if_true, if_false, List.map_nil, List.map_cons, List.sum_nil, List.sum_cons, Nat.zero_le, Option.toList_some, Option.toList_none, List.cons_append, List.nil_append, ne_eq, not_false_eq_true, not_true_eq_false, nI_1, nI_add, Value.category, Nat.reduceAdd, Nat.reduceMod, Nat.reduceLeDiff, Nat.reduceLT, Nat.reduceEqDiff, Nat.reducePow, Nat.le_refl, Nat.add_left_cancel_iff, Nat.add_eq_left, Nat.left_eq_add, Nat.add_zero, kb, nb, hx2, l0, l1, l2, l3, l4, l5, vb0, vb1, vb2, vb3, vb4, vb5, a1, a2, a3, a4, a5]
  refine c0_408 (by simp [Value.category]) I1.km (by omega) (gl_cm.to (gl_mpass (by omega)) I1 m47 (by decide) (by decide)) (gl_kn (fun H2 I2 => ?_)) gl_kx
  simp only [Option.toList_some, List.cons_append, List.nil_append]
  simp only [r0_411, r0_411a, r0_411n, r0_412, i32_10, reduceIte, gm_cmp1, gm_cmp3, gm_cmp4, gm_kd_sf, gm_ln_sf, gm_sf_1, gm_sf_2, gm_nw_1, gm_nw_2, gm_k_int, gm_k_ref, gm_k_null, gm_k_u, gm_k_long, and_true, true_and, true_or, or_true, or_false, false_or, and_self, or_self, if_true, if_false, List.map_nil, List.map_cons, List.sum_nil, List.sum_cons, Nat.zero_le, Option.toList_some, Option.toList_none, List.cons_append, List.nil_append, ne_eq, not_false_eq_true, not_true_eq_false, nI_1, nI_add, Value.category, Nat.reduceAdd, Nat.reduceMod, Nat.reduceLeDiff, Nat.reduceLT, Nat.reduceEqDiff, Nat.reducePow, Nat.le_refl, Nat.add_left_cancel_iff, Nat.add_eq_left, Nat.left_eq_add, Nat.add_zero, eq_self]
  exact go _ _ _ (St.pass k σ τ  hR).2 I2
theorem gl_wobject (hd : 400 ≤ d) (hx : xs.length ≤ 100000) (I : gl_I E b xs x m C S σ τ H) (hi : i + 6 ≤ xs.length) (St : gl_St gl_c R) (hR : R (k + 1) σ τ) (go : ∀ (H' : gm_H) (σ' τ' : gp_s), R k σ' τ' → gl_I E b xs x m (C + 710) (S + 5700) σ' τ' H' → gm_W E d 0 505 [.ref b, .ref x, .ref m, .int (nI i)] [] H' Q) : gm_W E d 0 415 [.ref b, .ref x, .ref m, .int (nI i)] [] H Q := by
  obtain ⟨a1, a2, a3, a4, a5⟩ := nI_k (i := i)
  have hx2 : xs.length < 2147483648 := by omega
  obtain ⟨ka, na, l0, l1, l2, l3, l4, l5, va0, va1, va2, va3, va4, va5⟩ := I.scr hx hi
  simp only [r0_415, r0_415n, r0_416, r0_416n, r0_417, r0_418, r0_419, r0_420, r0_421, r0_421n, r0_422, r0_423, r0_424, r0_425, i32_10, reduceIte, gm_cmp1, gm_cmp3, gm_cmp4, gm_kd_sf, gm_ln_sf, gm_sf_1, gm_sf_2, gm_nw_1, gm_nw_2, gm_k_int, gm_k_ref, gm_k_null, gm_k_u, gm_k_long, and_true, true_and, true_or, or_true, or_false, false_or, and_self, or_self, if_true, if_false, List.map_nil, List.map_cons, List.sum_nil, List.sum_cons, Nat.zero_le, Option.toList_some, Option.toList_none, List.cons_append, List.nil_append, ne_eq, not_false_eq_true, not_true_eq_false, nI_1, nI_add, Value.category, Nat.reduceAdd, Nat.reduceMod, Nat.reduceLeDiff, Nat.reduceLT, Nat.reduceEqDiff, Nat.reducePow, Nat.le_refl, Nat.add_left_cancel_iff, Nat.add_eq_left, Nat.left_eq_add, Nat.add_zero, ka, na, hx2, l0, l1, l2, l3, l4, l5, va0, va1, va2, va3, va4, va5, a1, a2, a3, a4, a5]
  refine c0_426 (by simp [Value.category]) I.kx (by omega) (gl_cx.to (gl_xobject (by omega) I.2.1) I m59 (by decide) (by decide)) (gl_kn (fun H1 I1 => ?_)) gl_kx
  obtain ⟨kb, nb, l0, l1, l2, l3, l4, l5, vb0, vb1, vb2, vb3, vb4, vb5⟩ := I1.scr hx hi
  simp only [r0_429, r0_429a, r0_429n, r0_430, r0_430n, r0_431, r0_431n, r0_432, r0_433, r0_434, r0_435, r0_436, r0_436n, r0_437, r0_438, r0_439, r0_440, i32_10, reduceIte, gm_cmp1, gm_cmp3, gm_cmp4, gm_kd_sf, gm_ln_sf, gm_sf_1, gm_sf_2, gm_nw_1, gm_nw_2, gm_k_int, gm_k_ref, gm_k_null, gm_k_u, gm_k_long, and_true, true_and, true_or, or_true, or_false, false_or, and_self, or_self, if_true, if_false, List.map_nil, List.map_cons, List.sum_nil, List.sum_cons, Nat.zero_le, Option.toList_some, Option.toList_none, List.cons_append, List.nil_append, ne_eq, not_false_eq_true, not_true_eq_false, nI_1, nI_add, Value.category, Nat.reduceAdd, Nat.reduceMod, Nat.reduceLeDiff, Nat.reduceLT, Nat.reduceEqDiff, Nat.reducePow, Nat.le_refl, Nat.add_left_cancel_iff, Nat.add_eq_left, Nat.left_eq_add, Nat.add_zero, kb, nb, hx2, l0, l1, l2, l3, l4, l5, vb0, vb1, vb2, vb3, vb4, vb5, a1, a2, a3, a4, a5]
  refine c0_441 (by simp [Value.category]) I1.km (by omega) (gl_cm.to (gl_mobject (by omega)) I1 m48 (by decide) (by decide)) (gl_kn (fun H2 I2 => ?_)) gl_kx
  simp only [Option.toList_some, List.cons_append, List.nil_append]
  simp only [r0_444, r0_444a, r0_444n, r0_445, i32_10, reduceIte, gm_cmp1, gm_cmp3, gm_cmp4, gm_kd_sf, gm_ln_sf, gm_sf_1, gm_sf_2, gm_nw_1, gm_nw_2, gm_k_int, gm_k_ref, gm_k_null, gm_k_u, gm_k_long, and_true, true_and, true_or, or_true, or_false, false_or, and_self, or_self, if_true, if_false, List.map_nil, List.map_cons, List.sum_nil, List.sum_cons, Nat.zero_le, Option.toList_some, Option.toList_none, List.cons_append, List.nil_append, ne_eq, not_false_eq_true, not_true_eq_false, nI_1, nI_add, Value.category, Nat.reduceAdd, Nat.reduceMod, Nat.reduceLeDiff, Nat.reduceLT, Nat.reduceEqDiff, Nat.reducePow, Nat.le_refl, Nat.add_left_cancel_iff, Nat.add_eq_left, Nat.left_eq_add, Nat.add_zero, eq_self, gx_cmp_eq]
  exact go _ _ _ (St.less k σ τ hR) I2
theorem gl_wvalue (hd : 400 ≤ d) (hx : xs.length ≤ 100000) (I : gl_I E b xs x m C S σ τ H) (hi : i + 6 ≤ xs.length) (St : gl_St gl_c R) (hR : R (k + 1) σ τ) (go : ∀ (H' : gm_H) (σ' τ' : gp_s), R k σ' τ' → gl_I E b xs x m (C + 710) (S + 5700) σ' τ' H' → gm_W E d 0 505 [.ref b, .ref x, .ref m, .int (nI i)] [] H' Q) : gm_W E d 0 448 [.ref b, .ref x, .ref m, .int (nI i)] [] H Q := by
  obtain ⟨a1, a2, a3, a4, a5⟩ := nI_k (i := i)
  have hx2 : xs.length < 2147483648 := by omega
  obtain ⟨ka, na, l0, l1, l2, l3, l4, l5, va0, va1, va2, va3, va4, va5⟩ := I.scr hx hi
  simp only [r0_448, r0_448n, r0_449, r0_449n, r0_450, r0_451, r0_452, r0_453, r0_454, r0_454n, r0_455, r0_456, r0_457, r0_458, i32_10, reduceIte, gm_cmp1, gm_cmp3, gm_cmp4, gm_kd_sf, gm_ln_sf, gm_sf_1, gm_sf_2, gm_nw_1, gm_nw_2, gm_k_int, gm_k_ref, gm_k_null, gm_k_u, gm_k_long, and_true, true_and, true_or, or_true, or_false, false_or, and_self, or_self, if_true, if_false, List.map_nil, List.map_cons, List.sum_nil, List.sum_cons, Nat.zero_le, Option.toList_some, Option.toList_none, List.cons_append, List.nil_append, ne_eq, not_false_eq_true, not_true_eq_false, nI_1, nI_add, Value.category, Nat.reduceAdd, Nat.reduceMod, Nat.reduceLeDiff, Nat.reduceLT, Nat.reduceEqDiff, Nat.reducePow, Nat.le_refl, Nat.add_left_cancel_iff, Nat.add_eq_left, Nat.left_eq_add, Nat.add_zero, ka, na, hx2, l0, l1, l2, l3, l4, l5, va0, va1, va2, va3, va4, va5, a1, a2, a3, a4, a5]
  refine c0_459 (by simp [Value.category]) I.kx (by omega) (gl_cx.to (gl_xvalue (by omega) I.2.1) I m60 (by decide) (by decide)) (gl_kn (fun H1 I1 => ?_)) gl_kx
  obtain ⟨kb, nb, l0, l1, l2, l3, l4, l5, vb0, vb1, vb2, vb3, vb4, vb5⟩ := I1.scr hx hi
  simp only [r0_462, r0_462n, r0_463, r0_463n, r0_464, r0_465, r0_466, r0_467, r0_468, r0_468n, r0_469, r0_470, r0_471, r0_472, i32_10, reduceIte, gm_cmp1, gm_cmp3, gm_cmp4, gm_kd_sf, gm_ln_sf, gm_sf_1, gm_sf_2, gm_nw_1, gm_nw_2, gm_k_int, gm_k_ref, gm_k_null, gm_k_u, gm_k_long, and_true, true_and, true_or, or_true, or_false, false_or, and_self, or_self, if_true, if_false, List.map_nil, List.map_cons, List.sum_nil, List.sum_cons, Nat.zero_le, Option.toList_some, Option.toList_none, List.cons_append, List.nil_append, ne_eq, not_false_eq_true, not_true_eq_false, nI_1, nI_add, Value.category, Nat.reduceAdd, Nat.reduceMod, Nat.reduceLeDiff, Nat.reduceLT, Nat.reduceEqDiff, Nat.reducePow, Nat.le_refl, Nat.add_left_cancel_iff, Nat.add_eq_left, Nat.left_eq_add, Nat.add_zero, kb, nb, hx2, l0, l1, l2, l3, l4, l5, vb0, vb1, vb2, vb3, vb4, vb5, a1, a2, a3, a4, a5]
  refine c0_473 (by simp [Value.category]) I1.km (by omega) (gl_cm.to (gl_mvalue (by omega)) I1 m49 (by decide) (by decide)) (gl_kn (fun H2 I2 => ?_)) gl_kx
  simp only [Option.toList_some, List.cons_append, List.nil_append]
  rw [St.value k σ τ _ _ hR rfl]
  simp only [r0_476, r0_477, r0_480, r0_481, i32_10, reduceIte, gm_cmp1, gm_cmp3, gm_cmp4, gm_kd_sf, gm_ln_sf, gm_sf_1, gm_sf_2, gm_nw_1, gm_nw_2, gm_k_int, gm_k_ref, gm_k_null, gm_k_u, gm_k_long, and_true, true_and, true_or, or_true, or_false, false_or, and_self, or_self, if_true, if_false, List.map_nil, List.map_cons, List.sum_nil, List.sum_cons, Nat.zero_le, Option.toList_some, Option.toList_none, List.cons_append, List.nil_append, ne_eq, not_false_eq_true, not_true_eq_false, nI_1, nI_add, Value.category, Nat.reduceAdd, Nat.reduceMod, Nat.reduceLeDiff, Nat.reduceLT, Nat.reduceEqDiff, Nat.reducePow, Nat.le_refl, Nat.add_left_cancel_iff, Nat.add_eq_left, Nat.left_eq_add, Nat.add_zero, eq_self, gx_cmp_eq]
  exact go _ _ _ (St.less k σ τ hR) I2
theorem gl_wcount (hd : 400 ≤ d) (hx : xs.length ≤ 100000) (I : gl_I E b xs x m C S σ τ H) (hi : i + 6 ≤ xs.length) (St : gl_St gl_c R) (hR : R (k + 1) σ τ) (go : ∀ (H' : gm_H) (σ' τ' : gp_s), R k σ' τ' → gl_I E b xs x m (C + 710) (S + 5700) σ' τ' H' → gm_W E d 0 505 [.ref b, .ref x, .ref m, .int (nI i)] [] H' Q) : gm_W E d 0 482 [.ref b, .ref x, .ref m, .int (nI i)] [] H Q := by
  obtain ⟨a1, a2, a3, a4, a5⟩ := nI_k (i := i)
  have hx2 : xs.length < 2147483648 := by omega
  obtain ⟨ka, na, l0, l1, l2, l3, l4, l5, va0, va1, va2, va3, va4, va5⟩ := I.scr hx hi
  simp only [r0_482, r0_482n, r0_483, r0_483n, r0_484, r0_485, r0_486, r0_487, i32_10, reduceIte, gm_cmp1, gm_cmp3, gm_cmp4, gm_kd_sf, gm_ln_sf, gm_sf_1, gm_sf_2, gm_nw_1, gm_nw_2, gm_k_int, gm_k_ref, gm_k_null, gm_k_u, gm_k_long, and_true, true_and, true_or, or_true, or_false, false_or, and_self, or_self, if_true, if_false, List.map_nil, List.map_cons, List.sum_nil, List.sum_cons, Nat.zero_le, Option.toList_some, Option.toList_none, List.cons_append, List.nil_append, ne_eq, not_false_eq_true, not_true_eq_false, nI_1, nI_add, Value.category, Nat.reduceAdd, Nat.reduceMod, Nat.reduceLeDiff, Nat.reduceLT, Nat.reduceEqDiff, Nat.reducePow, Nat.le_refl, Nat.add_left_cancel_iff, Nat.add_eq_left, Nat.left_eq_add, Nat.add_zero, ka, na, hx2, l0, l1, l2, l3, l4, l5, va0, va1, va2, va3, va4, va5, a1, a2, a3, a4, a5]
  refine c0_488 (by simp [Value.category]) I.kx (by omega) (gl_cx.to (gl_xcount (by omega) I.2.1) I m61 (by decide) (by decide)) (gl_kn (fun H1 I1 => ?_)) gl_kx
  obtain ⟨kb, nb, l0, l1, l2, l3, l4, l5, vb0, vb1, vb2, vb3, vb4, vb5⟩ := I1.scr hx hi
  simp only [r0_491, r0_491a, r0_491n, r0_492, r0_492n, r0_493, r0_493n, r0_494, r0_495, r0_496, r0_497, i32_10, reduceIte, gm_cmp1, gm_cmp3, gm_cmp4, gm_kd_sf, gm_ln_sf, gm_sf_1, gm_sf_2, gm_nw_1, gm_nw_2, gm_k_int, gm_k_ref, gm_k_null, gm_k_u, gm_k_long, and_true, true_and, true_or, or_true, or_false, false_or, and_self, or_self, if_true, if_false, List.map_nil, List.map_cons, List.sum_nil, List.sum_cons, Nat.zero_le, Option.toList_some, Option.toList_none, List.cons_append, List.nil_append, ne_eq, not_false_eq_true, not_true_eq_false, nI_1, nI_add, Value.category, Nat.reduceAdd, Nat.reduceMod, Nat.reduceLeDiff, Nat.reduceLT, Nat.reduceEqDiff, Nat.reducePow, Nat.le_refl, Nat.add_left_cancel_iff, Nat.add_eq_left, Nat.left_eq_add, Nat.add_zero, kb, nb, hx2, l0, l1, l2, l3, l4, l5, vb0, vb1, vb2, vb3, vb4, vb5, a1, a2, a3, a4, a5]
  refine c0_498 (by simp [Value.category]) I1.km (by omega) (gl_cm.to gl_mcount I1 m50 (by decide) (by decide)) (gl_kn (fun H2 I2 => ?_)) gl_kx
  simp only [Option.toList_some, List.cons_append, List.nil_append]
  simp only [r0_501, r0_501a, r0_501n, r0_502, i32_10, reduceIte, gm_cmp1, gm_cmp3, gm_cmp4, gm_kd_sf, gm_ln_sf, gm_sf_1, gm_sf_2, gm_nw_1, gm_nw_2, gm_k_int, gm_k_ref, gm_k_null, gm_k_u, gm_k_long, and_true, true_and, true_or, or_true, or_false, false_or, and_self, or_self, if_true, if_false, List.map_nil, List.map_cons, List.sum_nil, List.sum_cons, Nat.zero_le, Option.toList_some, Option.toList_none, List.cons_append, List.nil_append, ne_eq, not_false_eq_true, not_true_eq_false, nI_1, nI_add, Value.category, Nat.reduceAdd, Nat.reduceMod, Nat.reduceLeDiff, Nat.reduceLT, Nat.reduceEqDiff, Nat.reducePow, Nat.le_refl, Nat.add_left_cancel_iff, Nat.add_eq_left, Nat.left_eq_add, Nat.add_zero, eq_self, gx_cmp_eq]
  exact go _ _ _ (St.less k σ τ hR) I2
/-- so many calls to come -/
theorem gl_loop (hd : 400 ≤ d) (hx : xs.length ≤ 100000) (St : gl_St gl_c R) : ∀ (k i C S : Nat) (H : gm_H) (σ τ : gp_s), gl_I E b xs x m C S σ τ H → R k σ τ → xs.length < i + 6 * (k + 1) → i ≤ xs.length + 6 → 6 ≤ xs.length →
    gm_W E d 0 58 [.ref b, .ref x, .ref m, .int (nI i)] [] H (fun r h' => r = .inl (some (.int 1)) ∧ h'.1 ≤ C + 710 * k ∧ h'.2.1 ≤ S + 5700 * k) := by
  intro k
  induction k with
  | zero =>
    intro i C S H σ τ I hR h1 h2 h3
    obtain ⟨e1, e2, -⟩ := gl_sc I.1.2.1
    have q : nI xs.length - 6 < nI i := by
      rw [gl_sub h3]
      exact nI_lt (by omega) (by omega)
    have c := I.1.2.2
    simp only [r0_58, r0_59, r0_59n, r0_60, r0_61, r0_63, r0_64, r0_511, r0_512, i32_10, reduceIte, gm_cmp1, gm_cmp3, gm_cmp4, gm_kd_sf, gm_ln_sf, gm_sf_1, gm_sf_2, gm_nw_1, gm_nw_2, gm_k_int, gm_k_ref, gm_k_null, gm_k_u, gm_k_long, and_true, true_and, true_or, or_true, or_false, false_or, and_self, or_self, if_true, if_false, List.map_nil, List.map_cons, List.sum_nil, List.sum_cons, Nat.zero_le, Option.toList_some, Option.toList_none, List.cons_append, List.nil_append, ne_eq, not_false_eq_true, not_true_eq_false, nI_1, nI_add, Value.category, Nat.reduceAdd, Nat.reduceMod, Nat.reduceLeDiff, Nat.reduceLT, Nat.reduceEqDiff, Nat.reducePow, Nat.le_refl, Nat.add_left_cancel_iff, Nat.add_eq_left, Nat.left_eq_add, Nat.add_zero, e1, e2, q]
    exact ⟨by omega, by omega⟩
  | succ k ih =>
    intro i C S H σ τ I hR h1 h2 h3
    obtain ⟨e1, e2, -⟩ := gl_sc I.1.2.1
    have c := I.1.2.2
    rcases Nat.lt_or_ge xs.length (i + 6) with z | z
    · have q : nI xs.length - 6 < nI i := by
        rw [gl_sub h3]
        exact nI_lt (by omega) (by omega)
      simp only [r0_58, r0_59, r0_59n, r0_60, r0_61, r0_63, r0_64, r0_511, r0_512, i32_10, reduceIte, gm_cmp1, gm_cmp3, gm_cmp4, gm_kd_sf, gm_ln_sf, gm_sf_1, gm_sf_2, gm_nw_1, gm_nw_2, gm_k_int, gm_k_ref, gm_k_null, gm_k_u, gm_k_long, and_true, true_and, true_or, or_true, or_false, false_or, and_self, or_self, if_true, if_false, List.map_nil, List.map_cons, List.sum_nil, List.sum_cons, Nat.zero_le, Option.toList_some, Option.toList_none, List.cons_append, List.nil_append, ne_eq, not_false_eq_true, not_true_eq_false, nI_1, nI_add, Value.category, Nat.reduceAdd, Nat.reduceMod, Nat.reduceLeDiff, Nat.reduceLT, Nat.reduceEqDiff, Nat.reducePow, Nat.le_refl, Nat.add_left_cancel_iff, Nat.add_eq_left, Nat.left_eq_add, Nat.add_zero, e1, e2, q]
      exact ⟨by omega, by omega⟩
    · have q : ¬ nI xs.length - 6 < nI i := by
        rw [gl_sub h3]
        exact nI_nlt (by omega) (by omega)
      have hx2 : xs.length < 2147483648 := by omega
      obtain ⟨-, -, l0, -, -, -, -, -, v0, -⟩ := I.scr hx z
      have go : ∀ (H' : gm_H) (σ' τ' : gp_s), R k σ' τ' → gl_I E b xs x m (C + 710) (S + 5700) σ' τ' H' → gm_W E d 0 505 [.ref b, .ref x, .ref m, .int (nI i)] [] H' (fun r h' => r = .inl (some (.int 1)) ∧ h'.1 ≤ C + 710 * (k + 1) ∧ h'.2.1 ≤ S + 5700 * (k + 1)) := by
        intro H' σ' τ' hR' I'
        have w := ih (i + 6) (C + 710) (S + 5700) H' σ' τ' I' hR' (by omega) (by omega) h3
        have a6 : nI i + 6 = nI (i + 6) := nI_add i 6
        simp only [r0_505, r0_508, gm_k_ref, a6]
        exact gm_W.mono w (fun r h' q => ⟨q.1, by have := q.2.1; omega, by have := q.2.2; omega⟩)
      rw [r0_58]
      simp only [r0_59, r0_59n, r0_60, r0_61, r0_63, r0_64, r0_67, r0_67n, r0_68, r0_69, r0_70, r0_72, i32_10, reduceIte, gm_cmp1, gm_cmp3, gm_cmp4, gm_kd_sf, gm_ln_sf, gm_sf_1, gm_sf_2, gm_nw_1, gm_nw_2, gm_k_int, gm_k_ref, gm_k_null, gm_k_u, gm_k_long, and_true, true_and, true_or, or_true, or_false, false_or, and_self, or_self, if_true, if_false, List.map_nil, List.map_cons, List.sum_nil, List.sum_cons, Nat.zero_le, Option.toList_some, Option.toList_none, List.cons_append, List.nil_append, ne_eq, not_false_eq_true, not_true_eq_false, nI_1, nI_add, Value.category, Nat.reduceAdd, Nat.reduceMod, Nat.reduceLeDiff, Nat.reduceLT, Nat.reduceEqDiff, Nat.reducePow, Nat.le_refl, Nat.add_left_cancel_iff, Nat.add_eq_left, Nat.left_eq_add, Nat.add_zero, e1, e2, q, hx2, l0, v0]


      rw [r0_73]
      by_cases w0 : xs.getD i 0 &&& 15 = 0
      · rw [if_pos w0]
        exact gl_wdefine hd hx I z St hR go
      rw [if_neg w0]
      by_cases w1 : xs.getD i 0 &&& 15 = 1
      · rw [if_pos w1]
        exact gl_wfield hd hx I z St hR go
      rw [if_neg w1]
      by_cases w2 : xs.getD i 0 &&& 15 = 2
      · rw [if_pos w2]
        exact gl_wconstant hd hx I z St hR go
      rw [if_neg w2]
      by_cases w3 : xs.getD i 0 &&& 15 = 3
      · rw [if_pos w3]
        exact gl_wput hd hx I z St hR go
      rw [if_neg w3]
      by_cases w4 : xs.getD i 0 &&& 15 = 4
      · rw [if_pos w4]
        exact gl_wbegin hd hx I z St hR go
      rw [if_neg w4]
      by_cases w5 : xs.getD i 0 &&& 15 = 5
      · rw [if_pos w5]
        exact gl_wread hd hx I z St hR go
      rw [if_neg w5]
      by_cases w6 : xs.getD i 0 &&& 15 = 6
      · rw [if_pos w6]
        exact gl_wpass hd hx I z St hR go
      rw [if_neg w6]
      by_cases w7 : xs.getD i 0 &&& 15 = 7
      · rw [if_pos w7]
        exact gl_wobject hd hx I z St hR go
      rw [if_neg w7]
      by_cases w8 : xs.getD i 0 &&& 15 = 8
      · rw [if_pos w8]
        exact gl_wvalue hd hx I z St hR go
      rw [if_neg w8]
      by_cases w9 : xs.getD i 0 &&& 15 = 9
      · rw [if_pos w9]
        exact gl_wcount hd hx I z St hR go
      rw [if_neg w9]
      exact go H σ τ (St.less k σ τ hR) ⟨⟨I.1.1, I.1.2.1, by omega, by omega⟩, I.2⟩
theorem gl_cell {h : gm_H} {v : Int32} {k : Nat} (hv : v = nI k) (e : gm_rd h b = some (300, xs.map .int)) (hx : xs.length ≤ 100000) (hk : k < 4) : gm_Ca E d 1 [.ref b, .int v] h (gx_v (some (.int (xs.getD k 0))) h) := by
  subst hv
  obtain ⟨e1, e2, e3⟩ := gl_sc e
  have hx2 : xs.length < 2147483648 := by omega
  show gm_W E d 1 0 [.ref b, .int (nI k)] [] h _
  rcases Nat.lt_or_ge k xs.length with z | z
  · have q : ¬ nI xs.length ≤ nI k := by rw [Int32.not_le]; exact nI_lt z (by omega)
    simp only [r1_0, r1_1, r1_1n, r1_2, r1_3, r1_6, r1_6n, r1_7, r1_8, r1_9, r1_12, r1_13, i32_10, reduceIte, gm_cmp1, gm_cmp3, gm_cmp4, gm_kd_sf, gm_ln_sf, gm_sf_1, gm_sf_2, gm_nw_1, gm_nw_2, gm_k_int, gm_k_ref, gm_k_null, gm_k_u, gm_k_long, and_true, true_and, true_or, or_true, or_false, false_or, and_self, or_self, if_true, if_false, List.map_nil, List.map_cons, List.sum_nil, List.sum_cons, Nat.zero_le, Option.toList_some, Option.toList_none, List.cons_append, List.nil_append, ne_eq, not_false_eq_true, not_true_eq_false, nI_1, nI_add, Value.category, Nat.reduceAdd, Nat.reduceMod, Nat.reduceLeDiff, Nat.reduceLT, Nat.reduceEqDiff, Nat.reducePow, Nat.le_refl, Nat.add_left_cancel_iff, Nat.add_eq_left, Nat.left_eq_add, Nat.add_zero, e1, e2, e3 k z, q, z, hx2]
    exact ⟨rfl, rfl⟩
  · have q : nI xs.length ≤ nI k := by rw [← Int32.not_lt]; exact nI_nlt z (by omega)
    simp only [r1_0, r1_1, r1_1n, r1_2, r1_3, r1_6, r1_6n, r1_7, r1_8, r1_9, r1_12, r1_13, i32_10, reduceIte, gm_cmp1, gm_cmp3, gm_cmp4, gm_kd_sf, gm_ln_sf, gm_sf_1, gm_sf_2, gm_nw_1, gm_nw_2, gm_k_int, gm_k_ref, gm_k_null, gm_k_u, gm_k_long, and_true, true_and, true_or, or_true, or_false, false_or, and_self, or_self, if_true, if_false, List.map_nil, List.map_cons, List.sum_nil, List.sum_cons, Nat.zero_le, Option.toList_some, Option.toList_none, List.cons_append, List.nil_append, ne_eq, not_false_eq_true, not_true_eq_false, nI_1, nI_add, Value.category, Nat.reduceAdd, Nat.reduceMod, Nat.reduceLeDiff, Nat.reduceLT, Nat.reduceEqDiff, Nat.reducePow, Nat.le_refl, Nat.add_left_cancel_iff, Nat.add_eq_left, Nat.left_eq_add, Nat.add_zero, e1, e2, q]
    refine ⟨?_, rfl⟩
    rw [List.getD_eq_getElem?_getD, List.getElem?_eq_none z]
    rfl
theorem gl_G {h : gm_H} (I : gm_Ini E b xs h) : gx_G E h h.1 (fun _ => False) := by
  obtain ⟨-, ⟨z, z1, z2⟩, e1, st, e5, -, wf⟩ := I
  have ok : ∀ a c, gm_rd h a = some c → gx_ok h h.1 (fun _ => False) a := fun a c e => ⟨Or.inl (wf a c e).1, (wf a c e).1, fun y => y⟩
  have arr : ∀ (a k : Nat) (L : List Int32), gm_rd h a = some (k, L.map .int) → 6 ≤ k → gm_kd h a = k ∧ gm_ln h a = L.length ∧ ∀ j, j < L.length → gm_fv h a j = .int (L.getD j 0) := by
    intro a k L e hk
    refine ⟨?_, ?_, fun j hj => ?_⟩
    · unfold gm_kd; rw [e]; dsimp only; rw [if_neg (by omega)]
    · unfold gm_ln; rw [e]; simp
    · unfold gm_fv; rw [e]; simp [List.getD, hj]
  obtain ⟨y1, y2, y3⟩ := arr z 300 gm_prim z2 (by decide)
  refine ⟨⟨z, z1, ok _ _ z2, y1, y2, y3⟩, ⟨e5, e1⟩, fun i hi => ?_⟩
  obtain ⟨a, v, s1, s2, s3⟩ := st i hi
  obtain ⟨w1, w2, w3⟩ := arr v 302 _ s3 (by decide)
  have eq : gm_sbyt.getD i [] = gx_str i := by
    rcases (by omega : i = 0 ∨ i = 1 ∨ i = 2) with rfl | rfl | rfl <;> rfl
  rw [eq] at w2 w3
  refine ⟨a, v, s1, ok _ _ s2, ok _ _ s3, ?_, ?_, ?_, ?_, w1, w2, w3⟩
  · unfold gm_kd; rw [s2]; rfl
  · unfold gm_ln; rw [s2]; rfl
  · unfold gm_fv; rw [s2]; rfl
  · unfold gm_fv; rw [s2]; rfl
theorem gl_start {h0 : gm_H} {k : Nat} (hd : 400 ≤ d) (I : gm_Ini E b xs h0) (hx : xs.length ≤ 100000) (St : gl_St gl_c R) (hR : ∀ p q r t, R k (gs_K0 p q r t, (0, [], [], 0), 0) (gs_ref1 (gs_K0 p q r t), (0, [], [], 0), 0)) (hk : xs.length < 4 + 6 * (k + 1)) :
    gm_W E d 0 0 (gm_en [.ref b] 4) [] h0 (fun r h' => r = .inl (some (.int 1)) ∧ h'.1 ≤ h0.1 + 42 + 710 * k ∧ h'.2.1 ≤ h0.2.1 + 21425 + 5700 * k) := by
  obtain ⟨Q, hQ⟩ : ∃ Q : gm_R → gm_H → Prop, Q = (fun r h' => r = .inl (some (.int 1)) ∧ h'.1 ≤ h0.1 + 42 + 710 * k ∧ h'.2.1 ≤ h0.2.1 + 21425 + 5700 * k) := ⟨_, rfl⟩
  rw [← hQ]
  have wf : gm_Wf h0 := fun a c e => (I.2.2.2.2.2.2 a c e).1
  have kp0 : gm_Kp 1 h0 (gx_x0 h0) := gm_Kp.nw wf _ _
  have s0 := kp0.scr (by decide) I.1
  show gm_W E d 0 0 [.ref b, gm_u, gm_u, gm_u] [] h0 Q
  rw [r0_0]
  show gm_W E d 0 3 [.ref b, gm_u, gm_u, gm_u] [.ref h0.1] (gx_x0 h0) Q
  simp only [r0_3, r0_3i, r0_4, r0_4n, r0_5, i32_10, reduceIte, gm_cmp1, gm_cmp3, gm_cmp4, gm_kd_sf, gm_ln_sf, gm_sf_1, gm_sf_2, gm_nw_1, gm_nw_2, gm_k_int, gm_k_ref, gm_k_null, gm_k_u, gm_k_long, and_true, true_and, true_or, or_true, or_false, false_or, and_self, or_self, if_true, if_false, List.map_nil, List.map_cons, List.sum_nil, List.sum_cons, Nat.zero_le, Option.toList_some, Option.toList_none, List.cons_append, List.nil_append, ne_eq, not_false_eq_true, not_true_eq_false, nI_1, nI_add, Value.category, Nat.reduceAdd, Nat.reduceMod, Nat.reduceLeDiff, Nat.reduceLT, Nat.reduceEqDiff, Nat.reducePow, Nat.le_refl, Nat.add_left_cancel_iff, Nat.add_eq_left, Nat.left_eq_add, Nat.add_zero]
  refine c0_6 (by simp [Value.category]) (by simp [gm_en1]) (by omega) (gl_cell (k := 0) (by decide) s0 hx (by decide)) (gx_kn ?_) gx_kx
  simp only [r0_9, r0_9n, r0_10, i32_10, reduceIte, gm_cmp1, gm_cmp3, gm_cmp4, gm_kd_sf, gm_ln_sf, gm_sf_1, gm_sf_2, gm_nw_1, gm_nw_2, gm_k_int, gm_k_ref, gm_k_null, gm_k_u, gm_k_long, and_true, true_and, true_or, or_true, or_false, false_or, and_self, or_self, if_true, if_false, List.map_nil, List.map_cons, List.sum_nil, List.sum_cons, Nat.zero_le, Option.toList_some, Option.toList_none, List.cons_append, List.nil_append, ne_eq, not_false_eq_true, not_true_eq_false, nI_1, nI_add, Value.category, Nat.reduceAdd, Nat.reduceMod, Nat.reduceLeDiff, Nat.reduceLT, Nat.reduceEqDiff, Nat.reducePow, Nat.le_refl, Nat.add_left_cancel_iff, Nat.add_eq_left, Nat.left_eq_add, Nat.add_zero]
  refine c0_11 (by simp [Value.category]) (by simp [gm_en1]) (by omega) (gl_cell (k := 1) (by decide) s0 hx (by decide)) (gx_kn ?_) gx_kx
  simp only [r0_14, r0_14n, r0_15, i32_10, reduceIte, gm_cmp1, gm_cmp3, gm_cmp4, gm_kd_sf, gm_ln_sf, gm_sf_1, gm_sf_2, gm_nw_1, gm_nw_2, gm_k_int, gm_k_ref, gm_k_null, gm_k_u, gm_k_long, and_true, true_and, true_or, or_true, or_false, false_or, and_self, or_self, if_true, if_false, List.map_nil, List.map_cons, List.sum_nil, List.sum_cons, Nat.zero_le, Option.toList_some, Option.toList_none, List.cons_append, List.nil_append, ne_eq, not_false_eq_true, not_true_eq_false, nI_1, nI_add, Value.category, Nat.reduceAdd, Nat.reduceMod, Nat.reduceLeDiff, Nat.reduceLT, Nat.reduceEqDiff, Nat.reducePow, Nat.le_refl, Nat.add_left_cancel_iff, Nat.add_eq_left, Nat.left_eq_add, Nat.add_zero]
  refine c0_16 (by simp [Value.category]) (by simp [gm_en1]) (by omega) (gl_cell (k := 2) (by decide) s0 hx (by decide)) (gx_kn ?_) gx_kx
  simp only [r0_19, r0_19n, r0_20, i32_10, reduceIte, gm_cmp1, gm_cmp3, gm_cmp4, gm_kd_sf, gm_ln_sf, gm_sf_1, gm_sf_2, gm_nw_1, gm_nw_2, gm_k_int, gm_k_ref, gm_k_null, gm_k_u, gm_k_long, and_true, true_and, true_or, or_true, or_false, false_or, and_self, or_self, if_true, if_false, List.map_nil, List.map_cons, List.sum_nil, List.sum_cons, Nat.zero_le, Option.toList_some, Option.toList_none, List.cons_append, List.nil_append, ne_eq, not_false_eq_true, not_true_eq_false, nI_1, nI_add, Value.category, Nat.reduceAdd, Nat.reduceMod, Nat.reduceLeDiff, Nat.reduceLT, Nat.reduceEqDiff, Nat.reducePow, Nat.le_refl, Nat.add_left_cancel_iff, Nat.add_eq_left, Nat.left_eq_add, Nat.add_zero]
  refine c0_21 (by simp [Value.category]) (by simp [gm_en1]) (by omega) (gl_cell (k := 3) (by decide) s0 hx (by decide)) (gx_kn ?_) gx_kx
  simp only [i32_10, reduceIte, gm_cmp1, gm_cmp3, gm_cmp4, gm_kd_sf, gm_ln_sf, gm_sf_1, gm_sf_2, gm_nw_1, gm_nw_2, gm_k_int, gm_k_ref, gm_k_null, gm_k_u, gm_k_long, and_true, true_and, true_or, or_true, or_false, false_or, and_self, or_self, if_true, if_false, List.map_nil, List.map_cons, List.sum_nil, List.sum_cons, Nat.zero_le, Option.toList_some, Option.toList_none, List.cons_append, List.nil_append, ne_eq, not_false_eq_true, not_true_eq_false, nI_1, nI_add, Value.category, Nat.reduceAdd, Nat.reduceMod, Nat.reduceLeDiff, Nat.reduceLT, Nat.reduceEqDiff, Nat.reducePow, Nat.le_refl, Nat.add_left_cancel_iff, Nat.add_eq_left, Nat.left_eq_add, Nat.add_zero]
  refine c0_24 (by simp [Value.category]) (by omega) (gm_Ca.keep m51 (by decide) (show gm_cno _ = 1 from by decide) (by decide) kp0.2.1 (x_new (ca := fun _ => 0) (h := h0) (by omega) (gl_G I))) (fun v9 h1 q => ?_) (fun a h1 q => ?_)
  rotate_left
  · cases q.1.1
  obtain ⟨⟨q1, q2, q3, q4, q5⟩, k1⟩ := q
  cases q1
  have s1 := k1.scr (by decide) s0
  have kp1 : gm_Kp 2 h1 (gr_x0 h1) := gm_Kp.nw k1.2.1 _ _
  have s2 := kp1.scr (by decide) s1
  simp only [r0_27, r0_27n, i32_10, reduceIte, gm_cmp1, gm_cmp3, gm_cmp4, gm_kd_sf, gm_ln_sf, gm_sf_1, gm_sf_2, gm_nw_1, gm_nw_2, gm_k_int, gm_k_ref, gm_k_null, gm_k_u, gm_k_long, and_true, true_and, true_or, or_true, or_false, false_or, and_self, or_self, if_true, if_false, List.map_nil, List.map_cons, List.sum_nil, List.sum_cons, Nat.zero_le, Option.toList_some, Option.toList_none, List.cons_append, List.nil_append, ne_eq, not_false_eq_true, not_true_eq_false, nI_1, nI_add, Value.category, Nat.reduceAdd, Nat.reduceMod, Nat.reduceLeDiff, Nat.reduceLT, Nat.reduceEqDiff, Nat.reducePow, Nat.le_refl, Nat.add_left_cancel_iff, Nat.add_eq_left, Nat.left_eq_add, Nat.add_zero]
  rw [r0_28]
  show gm_W E d 0 31 [.ref b, .ref h0.1, gm_u, gm_u] [.ref h1.1] (gr_x0 h1) Q
  simp only [r0_31, r0_31i, r0_32, r0_32n, r0_33, i32_10, reduceIte, gm_cmp1, gm_cmp3, gm_cmp4, gm_kd_sf, gm_ln_sf, gm_sf_1, gm_sf_2, gm_nw_1, gm_nw_2, gm_k_int, gm_k_ref, gm_k_null, gm_k_u, gm_k_long, and_true, true_and, true_or, or_true, or_false, false_or, and_self, or_self, if_true, if_false, List.map_nil, List.map_cons, List.sum_nil, List.sum_cons, Nat.zero_le, Option.toList_some, Option.toList_none, List.cons_append, List.nil_append, ne_eq, not_false_eq_true, not_true_eq_false, nI_1, nI_add, Value.category, Nat.reduceAdd, Nat.reduceMod, Nat.reduceLeDiff, Nat.reduceLT, Nat.reduceEqDiff, Nat.reducePow, Nat.le_refl, Nat.add_left_cancel_iff, Nat.add_eq_left, Nat.left_eq_add, Nat.add_zero]
  refine c0_34 (by simp [Value.category]) (by simp [gm_en1]) (by omega) (gl_cell (k := 0) (by decide) s2 hx (by decide)) (gx_kn ?_) gx_kx
  simp only [r0_37, r0_37n, r0_38, i32_10, reduceIte, gm_cmp1, gm_cmp3, gm_cmp4, gm_kd_sf, gm_ln_sf, gm_sf_1, gm_sf_2, gm_nw_1, gm_nw_2, gm_k_int, gm_k_ref, gm_k_null, gm_k_u, gm_k_long, and_true, true_and, true_or, or_true, or_false, false_or, and_self, or_self, if_true, if_false, List.map_nil, List.map_cons, List.sum_nil, List.sum_cons, Nat.zero_le, Option.toList_some, Option.toList_none, List.cons_append, List.nil_append, ne_eq, not_false_eq_true, not_true_eq_false, nI_1, nI_add, Value.category, Nat.reduceAdd, Nat.reduceMod, Nat.reduceLeDiff, Nat.reduceLT, Nat.reduceEqDiff, Nat.reducePow, Nat.le_refl, Nat.add_left_cancel_iff, Nat.add_eq_left, Nat.left_eq_add, Nat.add_zero]
  refine c0_39 (by simp [Value.category]) (by simp [gm_en1]) (by omega) (gl_cell (k := 1) (by decide) s2 hx (by decide)) (gx_kn ?_) gx_kx
  simp only [r0_42, r0_42n, r0_43, i32_10, reduceIte, gm_cmp1, gm_cmp3, gm_cmp4, gm_kd_sf, gm_ln_sf, gm_sf_1, gm_sf_2, gm_nw_1, gm_nw_2, gm_k_int, gm_k_ref, gm_k_null, gm_k_u, gm_k_long, and_true, true_and, true_or, or_true, or_false, false_or, and_self, or_self, if_true, if_false, List.map_nil, List.map_cons, List.sum_nil, List.sum_cons, Nat.zero_le, Option.toList_some, Option.toList_none, List.cons_append, List.nil_append, ne_eq, not_false_eq_true, not_true_eq_false, nI_1, nI_add, Value.category, Nat.reduceAdd, Nat.reduceMod, Nat.reduceLeDiff, Nat.reduceLT, Nat.reduceEqDiff, Nat.reducePow, Nat.le_refl, Nat.add_left_cancel_iff, Nat.add_eq_left, Nat.left_eq_add, Nat.add_zero]
  refine c0_44 (by simp [Value.category]) (by simp [gm_en1]) (by omega) (gl_cell (k := 2) (by decide) s2 hx (by decide)) (gx_kn ?_) gx_kx
  simp only [r0_47, r0_47n, r0_48, i32_10, reduceIte, gm_cmp1, gm_cmp3, gm_cmp4, gm_kd_sf, gm_ln_sf, gm_sf_1, gm_sf_2, gm_nw_1, gm_nw_2, gm_k_int, gm_k_ref, gm_k_null, gm_k_u, gm_k_long, and_true, true_and, true_or, or_true, or_false, false_or, and_self, or_self, if_true, if_false, List.map_nil, List.map_cons, List.sum_nil, List.sum_cons, Nat.zero_le, Option.toList_some, Option.toList_none, List.cons_append, List.nil_append, ne_eq, not_false_eq_true, not_true_eq_false, nI_1, nI_add, Value.category, Nat.reduceAdd, Nat.reduceMod, Nat.reduceLeDiff, Nat.reduceLT, Nat.reduceEqDiff, Nat.reducePow, Nat.le_refl, Nat.add_left_cancel_iff, Nat.add_eq_left, Nat.left_eq_add, Nat.add_zero]
  refine c0_49 (by simp [Value.category]) (by simp [gm_en1]) (by omega) (gl_cell (k := 3) (by decide) s2 hx (by decide)) (gx_kn ?_) gx_kx
  simp only [i32_10, reduceIte, gm_cmp1, gm_cmp3, gm_cmp4, gm_kd_sf, gm_ln_sf, gm_sf_1, gm_sf_2, gm_nw_1, gm_nw_2, gm_k_int, gm_k_ref, gm_k_null, gm_k_u, gm_k_long, and_true, true_and, true_or, or_true, or_false, false_or, and_self, or_self, if_true, if_false, List.map_nil, List.map_cons, List.sum_nil, List.sum_cons, Nat.zero_le, Option.toList_some, Option.toList_none, List.cons_append, List.nil_append, ne_eq, not_false_eq_true, not_true_eq_false, nI_1, nI_add, Value.category, Nat.reduceAdd, Nat.reduceMod, Nat.reduceLeDiff, Nat.reduceLT, Nat.reduceEqDiff, Nat.reducePow, Nat.le_refl, Nat.add_left_cancel_iff, Nat.add_eq_left, Nat.left_eq_add, Nat.add_zero]
  refine c0_52 (by simp [Value.category]) (by omega) (gm_Ca.keep m2 (by decide) (show gm_cno _ = 2 from by decide) (by decide) kp1.2.1 (m_new (h := h1) (by omega))) (fun v9 h2 q => ?_) (fun a h2 q => ?_)
  rotate_left
  · cases q.1.1
  obtain ⟨⟨p1, hF, p2, p3, p4, rfl⟩, k2⟩ := q
  cases p1
  have kk := kp1.trans k2
  have s3 := k2.scr (by decide) s2
  have J : gl_I E b xs h0.1 h1.1 (h0.1 + 42) (h0.2.1 + 21425) (gs_K0 (xs.getD 0 0) (xs.getD 1 0) (xs.getD 2 0) (xs.getD 3 0), (0, [], [], 0), 0) (gs_ref1 (gs_K0 (xs.getD 0 0) (xs.getD 1 0) (xs.getD 2 0) (xs.getD 3 0)), (0, [], [], 0), 0) (gr_H hF h1.1 (gr_t0 (xs.getD 0 0) (xs.getD 1 0) (xs.getD 2 0) (xs.getD 3 0))) := by
    refine ⟨⟨k2.2.1, s3, ?_, ?_⟩, ⟨_, q2.kp kk⟩, _, gr_at.self, gr_X.new⟩
    · show hF.1 ≤ _; omega
    · show hF.2.1 ≤ _; omega
  have i4 : (4 : Int32) = nI 4 := by decide
  simp only [r0_55, r0_55n, r0_56, r0_57, i32_10, reduceIte, gm_cmp1, gm_cmp3, gm_cmp4, gm_kd_sf, gm_ln_sf, gm_sf_1, gm_sf_2, gm_nw_1, gm_nw_2, gm_k_int, gm_k_ref, gm_k_null, gm_k_u, gm_k_long, and_true, true_and, true_or, or_true, or_false, false_or, and_self, or_self, if_true, if_false, List.map_nil, List.map_cons, List.sum_nil, List.sum_cons, Nat.zero_le, Option.toList_some, Option.toList_none, List.cons_append, List.nil_append, ne_eq, not_false_eq_true, not_true_eq_false, nI_1, nI_add, Value.category, Nat.reduceAdd, Nat.reduceMod, Nat.reduceLeDiff, Nat.reduceLT, Nat.reduceEqDiff, Nat.reducePow, Nat.le_refl, Nat.add_left_cancel_iff, Nat.add_eq_left, Nat.left_eq_add, Nat.add_zero]
  rcases Nat.lt_or_ge xs.length 6 with z | z
  · obtain ⟨e1, e2, -⟩ := gl_sc s3
    have q : nI xs.length - 6 < 4 := by
      have : ∀ n, n < 6 → nI n - 6 < 4 := by decide
      exact this _ z
    simp only [r0_58, r0_59, r0_59n, r0_60, r0_61, r0_63, r0_64, r0_511, r0_512, i32_10, reduceIte, gm_cmp1, gm_cmp3, gm_cmp4, gm_kd_sf, gm_ln_sf, gm_sf_1, gm_sf_2, gm_nw_1, gm_nw_2, gm_k_int, gm_k_ref, gm_k_null, gm_k_u, gm_k_long, and_true, true_and, true_or, or_true, or_false, false_or, and_self, or_self, if_true, if_false, List.map_nil, List.map_cons, List.sum_nil, List.sum_cons, Nat.zero_le, Option.toList_some, Option.toList_none, List.cons_append, List.nil_append, ne_eq, not_false_eq_true, not_true_eq_false, nI_1, nI_add, Value.category, Nat.reduceAdd, Nat.reduceMod, Nat.reduceLeDiff, Nat.reduceLT, Nat.reduceEqDiff, Nat.reducePow, Nat.le_refl, Nat.add_left_cancel_iff, Nat.add_eq_left, Nat.left_eq_add, Nat.add_zero, e1, e2, q]
    rw [hQ]
    exact ⟨rfl, by have := J.1.2.2.1; omega, by have := J.1.2.2.2; omega⟩
  · rw [hQ, i4]
    exact gl_loop hd hx St k 4 (h0.1 + 42) (h0.2.1 + 21425) _ _ _ J (hR _ _ _ _) (by omega) (by omega) z
end LC
/-! THE LAW, 4: the reference's flags. -/
def gp_ref (σ : gp_s) : gp_s := (gs_ref1 σ.1, σ.2)
section LD
variable {σ : gp_s}
theorem gp_define_ref {n k u : Int32} {id : Int64} : gp_define (gp_ref σ) n k u id = ((gp_define σ n k u id).1, gp_ref (gp_define σ n k u id).2) := by
  unfold gp_define
  by_cases c : gs_defok σ.1 n k u = true
  · rw [if_pos c, if_pos (show gs_defok (gp_ref σ).1 n k u = true from c)]
    rfl
  · rw [if_neg c, if_neg (show ¬ gs_defok (gp_ref σ).1 n k u = true from c)]
theorem gp_field_ref {n nm ty : Int32} : gp_field (gp_ref σ) n nm ty = ((gp_field σ n nm ty).1, gp_ref (gp_field σ n nm ty).2) := by
  have e : gs_fld (gs_ref1 σ.1) σ.2.1 n nm ty = ((gs_fld σ.1 σ.2.1 n nm ty).1, gs_ref1 (gs_fld σ.1 σ.2.1 n nm ty).2) := by
    unfold gs_fld
    rw [show gs_cn (gs_ref1 σ.1) n = gs_cn σ.1 n from rfl]
    cases gs_cn σ.1 n with
    | none => rfl
    | some c =>
      dsimp only
      rw [show gs_cls (gs_ref1 σ.1) c = gs_cls σ.1 c from rfl]
      cases gs_cls σ.1 c with
      | none => rfl
      | some C =>
        dsimp only
        split <;> rfl
  unfold gp_field gp_ref
  rw [e]
theorem gp_constant_ref {n nm on : Int32} : gp_constant (gp_ref σ) n nm on = ((gp_constant σ n nm on).1, gp_ref (gp_constant σ n nm on).2) := by
  have e : gs_cst (gs_ref1 σ.1) n nm on = ((gs_cst σ.1 n nm on).1, gs_ref1 (gs_cst σ.1 n nm on).2) := by
    unfold gs_cst
    rw [show gs_cn (gs_ref1 σ.1) n = gs_cn σ.1 n from rfl]
    cases gs_cn σ.1 n with
    | none => rfl
    | some c =>
      dsimp only
      rw [show gs_cls (gs_ref1 σ.1) c = gs_cls σ.1 c from rfl]
      cases gs_cls σ.1 c with
      | none => rfl
      | some C =>
        dsimp only
        split
        · split <;> rfl
        · rfl
  unfold gp_constant gp_ref
  rw [e]
theorem gs_puts_ref {v : Int64} : ∀ (k : Nat) (K : gs_K), gs_puts (gs_ref1 K) v k = gs_ref1 (gs_puts K v k)
  | 0, _ => rfl
  | k + 1, K => gs_puts_ref k (gs_put1 K (gs_pb v k))
theorem gp_put_ref {v : Int64} {c : Int32} : gp_put (gp_ref σ) v c = ((gp_put σ v c).1, gp_ref (gp_put σ v c).2) := by
  have e : gs_putr (gs_ref1 σ.1) v c = ((gs_putr σ.1 v c).1, gs_ref1 (gs_putr σ.1 v c).2) := by
    unfold gs_putr
    rw [show gs_n (gs_ref1 σ.1) = gs_n σ.1 from rfl]
    split
    · rfl
    · rw [gs_puts_ref]
  unfold gp_put gp_ref
  rw [e]
theorem gp_begin_ref : gp_begin (gp_ref σ) = ((gp_begin σ).1, gp_ref (gp_begin σ).2) := rfl
theorem gp_pass_ref : gp_pass (gp_ref σ) = ((gp_pass σ).1, gp_ref (gp_pass σ).2) := rfl
/-- what a call keeps of the flags and of the limits -/
def gs_fk (K K' : gs_K) : Prop := K'.1 = K.1 ∧ gs_rst K' = gs_rst K ∧ gs_fill K' = gs_fill K
theorem gs_kok.fk {K K' : gs_K} (h : gs_kok K) (q : gs_fk K K') : gs_kok K' := ⟨q.2.1.trans h.1, q.2.2.trans h.2.1, by rw [q.1]; exact h.2.2⟩
theorem gp_define_fk {n k u : Int32} {id : Int64} : gs_fk σ.1 (gp_define σ n k u id).2.1 := by
  unfold gp_define
  split <;> exact ⟨rfl, rfl, rfl⟩
theorem gp_field_fk {n nm ty : Int32} : gs_fk σ.1 (gp_field σ n nm ty).2.1 := by
  show gs_fk σ.1 (gs_fld σ.1 σ.2.1 n nm ty).2
  unfold gs_fld
  cases gs_cn σ.1 n with
  | none => exact ⟨rfl, rfl, rfl⟩
  | some c =>
    dsimp only
    cases gs_cls σ.1 c with
    | none => exact ⟨rfl, rfl, rfl⟩
    | some C =>
      dsimp only
      split <;> exact ⟨rfl, rfl, rfl⟩
theorem gp_constant_fk {n nm on : Int32} : gs_fk σ.1 (gp_constant σ n nm on).2.1 := by
  show gs_fk σ.1 (gs_cst σ.1 n nm on).2
  unfold gs_cst
  cases gs_cn σ.1 n with
  | none => exact ⟨rfl, rfl, rfl⟩
  | some c =>
    dsimp only
    cases gs_cls σ.1 c with
    | none => exact ⟨rfl, rfl, rfl⟩
    | some C =>
      dsimp only
      split
      · split <;> exact ⟨rfl, rfl, rfl⟩
      · exact ⟨rfl, rfl, rfl⟩
theorem gs_puts_fk {v : Int64} : ∀ (k : Nat) (K : gs_K), gs_fk K (gs_puts K v k)
  | 0, _ => ⟨rfl, rfl, rfl⟩
  | k + 1, K => gs_puts_fk k (gs_put1 K (gs_pb v k))
theorem gp_put_fk {v : Int64} {c : Int32} : gs_fk σ.1 (gp_put σ v c).2.1 := by
  show gs_fk σ.1 (gs_putr σ.1 v c).2
  unfold gs_putr
  split
  · exact ⟨rfl, rfl, rfl⟩
  · exact gs_puts_fk _ _
end LD
/-! A PART: class and reference side by side, alike but for which fault lasts -/
/-- alike: the same classes, bytes, heap and handles; a fault lasts on both sides or on none -/
def gq_R (_ : Nat) (σ τ : gp_s) : Prop := gs_kok σ.1 ∧ τ.1 = gs_ref1 σ.1 ∧ τ.2.1 = σ.2.1 ∧ (σ.2.2 = 0 ↔ τ.2.2 = 0)
theorem gq_cl (v : Int32) : gs_cl v 0 20 ≤ 20 := by
  unfold gs_cl
  by_cases h1 : 20 < v
  · rw [if_pos h1]
    split
    · exact Int32.le_refl _
    · decide
  · rw [if_neg h1]
    split
    · exact Int32.not_lt.mp h1
    · decide
/-- a call that doesn't look at the fault that lasts -/
theorem gq_op {f : gp_s → Int32 × gp_s} {k : Nat} {σ τ : gp_s} (f1 : ∀ σ, f (gp_ref σ) = ((f σ).1, gp_ref (f σ).2)) (f2 : ∀ (σ : gp_s) (l : Int32), (f (σ.1, σ.2.1, l)).1 = (f σ).1 ∧ (f (σ.1, σ.2.1, l)).2.1 = (f σ).2.1) (f3 : ∀ σ, (f σ).2.2 = σ.2) (f4 : ∀ σ, gs_fk σ.1 (f σ).2.1) (h : gq_R (k + 1) σ τ) : (f σ).1 = (f τ).1 ∧ gq_R k (f σ).2 (f τ).2 := by
  obtain ⟨h1, h2, h3, h4⟩ := h
  have e : τ = gp_ref (σ.1, σ.2.1, τ.2.2) := Prod.ext h2 (Prod.ext h3 rfl)
  have e1 : f τ = ((f (σ.1, σ.2.1, τ.2.2)).1, gp_ref (f (σ.1, σ.2.1, τ.2.2)).2) := (congrArg f e).trans (f1 _)
  obtain ⟨g1, g2⟩ := f2 σ τ.2.2
  refine ⟨by rw [e1]; exact g1.symm, h1.fk (f4 σ), ?_, ?_, ?_⟩
  · rw [e1]
    show gs_ref1 (f (σ.1, σ.2.1, τ.2.2)).2.1 = gs_ref1 (f σ).2.1
    rw [g2]
  · rw [f3, f3]; exact h3
  · rw [f3, f3]; exact h4
theorem gq_read {k : Nat} {σ τ : gp_s} (h : gq_R (k + 1) σ τ) : gq_R k (gp_read σ).2 (gp_read τ).2 := by
  obtain ⟨h1, h2, h3, h4⟩ := h
  obtain ⟨K, s, l⟩ := σ
  obtain ⟨K', s', l'⟩ := τ
  dsimp only at h1 h2 h3 h4
  subst h2 h3
  refine ⟨h1, rfl, ?_⟩
  show (gs_read (gs_ref1 K) s' l').2.1 = (gs_read K s' l).2.1 ∧ ((gs_read K s' l).2.2 = 0 ↔ (gs_read (gs_ref1 K) s' l').2.2 = 0)
  unfold gs_read
  by_cases c : l = 0
  · rw [if_neg (not_not_intro c), if_neg (not_not_intro (h4.mp c))]
    rcases gs_out_two h1.1 s' with ⟨q, e1, e2⟩ | ⟨e, e', e1, e2, r⟩
    · rw [e1, e2]
      exact ⟨rfl, Iff.rfl⟩
    · rw [e1, e2]
      dsimp only
      refine ⟨rfl, ?_⟩
      rcases r with r | ⟨r1, r2⟩
      · rw [r]
      · rw [r1, r2]
        decide
  · rw [if_pos c, if_pos (fun z => c (h4.mpr z))]
    exact ⟨rfl, h4⟩
theorem gq_pass {k : Nat} {σ τ : gp_s} (h : gq_R (k + 1) σ τ) : gq_R k (gp_pass σ).2 (gp_pass τ).2 := by
  obtain ⟨h1, h2, h3, h4⟩ := h
  obtain ⟨K, s, l⟩ := σ
  obtain ⟨K', s', l'⟩ := τ
  dsimp only at h1 h2 h3 h4
  subst h2 h3
  refine ⟨h1, rfl, ?_⟩
  show (gs_pass K s' l').2.1 = (gs_pass K s' l).2.1 ∧ ((gs_pass K s' l).2.2 = 0 ↔ (gs_pass K s' l').2.2 = 0)
  by_cases c : l = 0
  · rw [c, h4.mp c]
    exact ⟨rfl, Iff.rfl⟩
  · unfold gs_pass
    rw [if_pos c, if_pos (fun z => c (h4.mpr z))]
    exact ⟨rfl, h4⟩
theorem gq_St {c : Nat → Bool} (c5 : c 5 = false) (c6 : c 6 = false) (c9 : c 9 = false) : gl_St c gq_R := by
  refine ⟨?_, ?_, ?_, ?_, ?_, ?_, ?_, ?_, ?_, ?_, ?_⟩
  · intro k σ τ n q u id h
    obtain ⟨a, b⟩ := gq_op (f := fun σ => gp_define σ n q u id) (fun σ => gp_define_ref) (fun σ l => by unfold gp_define; split <;> exact ⟨rfl, rfl⟩) (fun σ => by unfold gp_define; split <;> rfl) (fun σ => gp_define_fk) h
    exact ⟨fun _ => a, b⟩
  · intro k σ τ n q u h
    obtain ⟨a, b⟩ := gq_op (f := fun σ => gp_field σ n q u) (fun σ => gp_field_ref) (fun σ l => ⟨rfl, rfl⟩) (fun σ => rfl) (fun σ => gp_field_fk) h
    exact ⟨fun _ => a, b⟩
  · intro k σ τ n q u h
    obtain ⟨a, b⟩ := gq_op (f := fun σ => gp_constant σ n q u) (fun σ => gp_constant_ref) (fun σ l => ⟨rfl, rfl⟩) (fun σ => rfl) (fun σ => gp_constant_fk) h
    exact ⟨fun _ => a, b⟩
  · intro k σ τ w q h
    obtain ⟨a, b⟩ := gq_op (f := fun σ => gp_put σ w q) (fun σ => gp_put_ref) (fun σ l => ⟨rfl, rfl⟩) (fun σ => rfl) (fun σ => gp_put_fk) h
    exact ⟨fun _ => a, b⟩
  · intro k σ τ h
    obtain ⟨h1, h2, h3, h4⟩ := h
    have e : gp_begin τ = ((gp_begin σ).1, gp_ref (gp_begin σ).2) := by
      unfold gp_begin
      rw [h2]
      rfl
    rw [e]
    exact ⟨fun _ => rfl, h1, rfl, rfl, Iff.rfl⟩
  · intro k σ τ h
    have hK : gs_kor τ.1 := by
      rw [h.2.1]
      exact ⟨rfl, rfl, h.1.2.2⟩
    exact ⟨h.1, (gp_read τ).1, (gp_read τ).2, fun E d m H hd t X => M_read (d := d) hK (by omega) X, fun z => (by rw [c5] at z; cases z), gq_read h⟩
  · intro k σ τ h
    exact ⟨fun z => (by rw [c6] at z; cases z), gq_pass h⟩
  · intro k σ τ u w h _
    rw [h.2.2.1]
  · intro k σ τ u w h _
    rw [h.2.2.1]
  · intro k σ τ w h z
    rw [c9] at z
    cases z
  · intro k σ τ h
    exact h
theorem gq_pure : gm_Pure := by
  intro E b xs h0 hx I
  obtain ⟨r, h', ⟨n, g⟩, e, c1, c2⟩ := gl_start (d := 400) (k := 512) (R := gq_R) (Nat.le_refl _) I (by omega) (gq_St rfl rfl rfl) (fun p q r t => ⟨⟨rfl, rfl, gq_cl r⟩, rfl, rfl, Iff.rfl⟩) (by omega)
  subst e
  exact ⟨n, 400, h', by decide, g, by omega, by omega⟩
