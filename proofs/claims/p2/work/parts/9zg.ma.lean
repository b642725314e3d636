/-! THE REFERENCE, 9: blocks, begin, limits. -/
section MA
variable {E : Nat → Value} {d m : Nat} {h : gm_H} {t : gr_t} {K : gs_K} {s : gs_S}
set_option maxRecDepth 100000 in
theorem gr_ub8 : ∀ b : Fin 256, ((UInt8.ofNat b.val).toInt8.toInt32 &&& 255) = nI b.val := by decide +kernel
theorem gr_ub {i : Nat} : gs_sb K i &&& 255 = nI (gs_ubn K i) := by
  have h := gr_ub8 ⟨gs_ubn K i, gs_ubn_lt⟩
  have e : UInt8.ofNat (gs_ubn K i) = gs_by K i := UInt8.ofNat_toNat
  dsimp only at h
  rw [e] at h
  exact h
set_option maxRecDepth 100000 in
theorem gr_by8 : ∀ b : Fin 256, (decide (((UInt8.ofNat b.val).toInt8.toInt32 &&& 255) = 119) = decide ((UInt8.ofNat b.val).toInt8.toInt32 = 119)) ∧ (decide (((UInt8.ofNat b.val).toInt8.toInt32 &&& 255) = 122) = decide ((UInt8.ofNat b.val).toInt8.toInt32 = 122)) ∧ (decide (((UInt8.ofNat b.val).toInt8.toInt32 &&& 255) = 120) = decide ((UInt8.ofNat b.val).toInt8.toInt32 = 120)) ∧ (decide (((UInt8.ofNat b.val).toInt8.toInt32 &&& 255) = 121) = decide ((UInt8.ofNat b.val).toInt8.toInt32 = 121)) := by decide +kernel
theorem gr_by {i : Nat} : (gs_sb K i &&& 255 = 119 ↔ gs_sb K i = 119) ∧ (gs_sb K i &&& 255 = 122 ↔ gs_sb K i = 122) ∧ (gs_sb K i &&& 255 = 120 ↔ gs_sb K i = 120) ∧ (gs_sb K i &&& 255 = 121 ↔ gs_sb K i = 121) := by
  have h := gr_by8 ⟨gs_ubn K i, gs_ubn_lt⟩
  have e : UInt8.ofNat (gs_ubn K i) = gs_by K i := UInt8.ofNat_toNat
  dsimp only at h
  rw [e] at h
  simp only [decide_eq_decide] at h
  exact h
theorem gr_n1 {p : Nat} : (gs_num K p 1).toInt32 = gs_sb K p &&& 255 := by rw [gs_num1, gr_ub]
theorem gr_er.ui {p : Nat} {t' : gr_t} {f : Int32} (x : gr_er (gr_ui t 0 6 (nI p)) t' f) : gr_er t t' f := by
  obtain ⟨a, q, b, c⟩ := x
  exact ⟨a, q, b, by rw [c, gr_ui_ui]⟩
theorem m_block (hd : 3 ≤ d) (B : gr_B t K) (hp : t.1 0 6 = nI (gs_pl s)) (hpn : gs_pl s ≤ gs_n K) (h8 : t.1 0 8 = 0) : gm_Ca E d 43 [.ref m] (gr_H h m t) (gr_q h m t (gs_blk K s) (fun n _ => .int n)) := by
  obtain ⟨Q, hQ⟩ : ∃ Q : gm_R → gm_H → Prop, Q = gr_q h m t (gs_blk K s) (fun n _ => .int n) := ⟨_, rfl⟩
  rw [← hQ]
  have hn7 := B.2.1
  -- a fault ends it
  have bad : ∀ (pc : Nat) (f : Int32) (p : Nat) (v : Int32), pc = 25 ∨ pc = 42 ∨ pc = 68 → gs_blk K s = .error f → f ≠ 0 → p ≤ 700 → gm_W E d 43 pc [.ref m, .int v] [] (gr_H h m (gr_ui (gr_ui t 0 6 (nI p)) 0 8 f)) Q := by
    intro pc f p v hpc e hf hp7
    have fin : Q (.inl (some (.int v))) (gr_H h m (gr_ui (gr_ui t 0 6 (nI p)) 0 8 f)) := by
      rw [hQ]; exact gr_q_er e ⟨hf, p, hp7, rfl⟩
    rcases hpc with rfl | rfl | rfl <;>
    · simp only [r43_0, r43_0n, r43_4, r43_6, r43_9, r43_9n, r43_10, r43_14, r43_15, r43_18, r43_18n, r43_19, r43_23, r43_24, r43_25, r43_25n, r43_26, r43_29, r43_32, r43_33, r43_36, r43_36n, r43_37, r43_42, r43_42n, r43_43, r43_46, r43_49, r43_50, r43_50n, r43_51, r43_54, r43_54n, r43_55, r43_58, r43_59, r43_62, r43_62n, r43_63, r43_68, r43_68n, r43_69, r43_72, r43_75, r43_75n, r43_76, r43_76i, r43_77, r43_80, r43_81, r43_82, r43_85, r43_86, i32_10, reduceIte, gm_cmp1, gm_cmp3, gm_cmp4, gm_kd_sf, gm_ln_sf, gm_sf_1, gm_sf_2, gm_nw_1, gm_nw_2, gm_k_int, gm_k_ref, gm_k_null, gm_k_u, gm_k_long, and_true, true_and, true_or, or_true, or_false, false_or, and_self, or_self, if_true, if_false, List.map_nil, List.map_cons, List.sum_nil, List.sum_cons, Nat.zero_le, Option.toList_some, Option.toList_none, List.cons_append, List.nil_append, ne_eq, not_false_eq_true, not_true_eq_false, nI_1, nI_add, Value.category, Nat.reduceAdd, Nat.reduceMod, Nat.reduceLeDiff, Nat.reduceLT, Nat.reduceEqDiff, Nat.reducePow, Nat.le_refl, Nat.add_left_cancel_iff, Nat.add_eq_left, Nat.left_eq_add, Nat.add_zero, g_k0, g_k1, g_l1, g_p4, g_a1, g_w1, g_k2, g_l2, g_p10, g_a2, g_w2, g_k3, g_l3, g_p11, g_a3, g_w3, g_k4, g_l4, g_p12, g_a4, g_w4, g_k5, g_l5, g_p13, g_a5, g_w5, g_k6, g_l6, g_p14, g_a6, g_w6, g_k7, g_l7, g_p15, g_a7, g_w7, g_k8, g_l8, g_p16, g_a8, g_w8, g_k9, g_l9, g_p17, g_a9, g_w9, g_k10, g_l10, g_p18, g_a10, g_w10, g_k11, g_l11, g_p19, g_a11, g_w11, g_k12, g_l12, g_p20, g_a12, g_w12, g_k13, g_l13, g_p21, g_a13, g_w13, g_k14, g_l14, g_p22, g_a14, g_w14, g_k15, g_l15, g_p24, g_a15, g_w15, g_k16, g_l16, g_p26, g_a16, g_w16, g_k17, g_l17, g_p27, g_a17, g_w17, g_k18, g_l18, g_p29, g_a18, g_w18, g_k19, g_l19, g_p30, g_a19, g_w19, g_k20, g_l20, g_p31, g_a20, g_w20, g_k21, g_l21, g_p32, g_a21, g_w21, g_k22, g_l22, g_p33, g_a22, g_w22, g_k23, g_l23, g_p34, g_a23, g_w23, g_k24, g_l24, g_p35, g_a24, g_w24, g_k25, g_l25, g_p36, g_a25, g_w25, g_k26, g_l26, g_p37, g_a26, g_w26, g_k27, g_l27, g_p38, g_a27, g_w27, g_k28, g_l28, g_p40, g_a28, g_w28, g_k29, g_l29, g_p41, g_a29, g_w29, g_k30, g_l30, g_p42, g_a30, g_w30, g_k31, g_l31, g_p43, g_a31, g_w31, g_k32, g_l32, g_p44, g_a32, g_w32, g_k33, g_l33, g_p45, g_a33, g_w33, g_k34, g_l34, g_p46, g_a34, g_w34, g_f0, g_s0, g_f1, g_s1, g_f2, g_s2, g_f3, g_s3, g_f5, g_s5, g_f6, g_s6, g_f7, g_s7, g_f8, g_s8, g_f9, g_s9, g_f23, g_s23, g_f25, g_s25, g_f28, g_s28, g_f39, g_s39, g_f47, g_s47, gr_ui_eq, gr_ui_2, gr_ul_eq, gr_ul_1, gr_ui_no, gr_ui_ni, gr_ul_no, gr_ul_ni, hf]
      exact fin
  -- behind the length
  have len : ∀ (p : Nat) (v : Int32), p ≤ gs_n K → (gs_blk K s = if v < 0 then .error (-4) else if gs_n K - p < v.toNatClampNeg then .error (-3) else .ok (v, gs_p (p + v.toNatClampNeg) s)) → gm_W E d 43 25 [.ref m, .int v] [] (gr_H h m (gr_ui t 0 6 (nI p))) Q := by
    intro p v hpp e
    have e8 : (gr_ui t 0 6 (nI p)).1 0 8 = 0 := by rw [gr_ui_ni (by decide)]; exact h8
    have ef : ∀ f, gr_fl (gr_ui t 0 6 (nI p)) f = gr_ui (gr_ui t 0 6 (nI p)) 0 8 f := fun f => by unfold gr_fl; rw [if_pos e8]
    by_cases hv : v < 0
    · rw [if_pos hv] at e
      have b := bad 42 (-4) p v (by simp) e (by decide) (by omega)
      have hv' : ¬ 0 ≤ v := Int32.not_le.mpr hv
      simp only [r43_0, r43_0n, r43_4, r43_6, r43_9, r43_9n, r43_10, r43_14, r43_15, r43_18, r43_18n, r43_19, r43_23, r43_24, r43_25, r43_25n, r43_26, r43_29, r43_32, r43_33, r43_36, r43_36n, r43_37, r43_43, r43_46, r43_49, r43_50, r43_50n, r43_51, r43_54, r43_54n, r43_55, r43_58, r43_59, r43_62, r43_62n, r43_63, r43_68, r43_68n, r43_69, r43_72, r43_75, r43_75n, r43_76, r43_76i, r43_77, r43_80, r43_81, r43_82, r43_85, r43_86, i32_10, reduceIte, gm_cmp1, gm_cmp3, gm_cmp4, gm_kd_sf, gm_ln_sf, gm_sf_1, gm_sf_2, gm_nw_1, gm_nw_2, gm_k_int, gm_k_ref, gm_k_null, gm_k_u, gm_k_long, and_true, true_and, true_or, or_true, or_false, false_or, and_self, or_self, if_true, if_false, List.map_nil, List.map_cons, List.sum_nil, List.sum_cons, Nat.zero_le, Option.toList_some, Option.toList_none, List.cons_append, List.nil_append, ne_eq, not_false_eq_true, not_true_eq_false, nI_1, nI_add, Value.category, Nat.reduceAdd, Nat.reduceMod, Nat.reduceLeDiff, Nat.reduceLT, Nat.reduceEqDiff, Nat.reducePow, Nat.le_refl, Nat.add_left_cancel_iff, Nat.add_eq_left, Nat.left_eq_add, Nat.add_zero, g_k0, g_k1, g_l1, g_p4, g_a1, g_w1, g_k2, g_l2, g_p10, g_a2, g_w2, g_k3, g_l3, g_p11, g_a3, g_w3, g_k4, g_l4, g_p12, g_a4, g_w4, g_k5, g_l5, g_p13, g_a5, g_w5, g_k6, g_l6, g_p14, g_a6, g_w6, g_k7, g_l7, g_p15, g_a7, g_w7, g_k8, g_l8, g_p16, g_a8, g_w8, g_k9, g_l9, g_p17, g_a9, g_w9, g_k10, g_l10, g_p18, g_a10, g_w10, g_k11, g_l11, g_p19, g_a11, g_w11, g_k12, g_l12, g_p20, g_a12, g_w12, g_k13, g_l13, g_p21, g_a13, g_w13, g_k14, g_l14, g_p22, g_a14, g_w14, g_k15, g_l15, g_p24, g_a15, g_w15, g_k16, g_l16, g_p26, g_a16, g_w16, g_k17, g_l17, g_p27, g_a17, g_w17, g_k18, g_l18, g_p29, g_a18, g_w18, g_k19, g_l19, g_p30, g_a19, g_w19, g_k20, g_l20, g_p31, g_a20, g_w20, g_k21, g_l21, g_p32, g_a21, g_w21, g_k22, g_l22, g_p33, g_a22, g_w22, g_k23, g_l23, g_p34, g_a23, g_w23, g_k24, g_l24, g_p35, g_a24, g_w24, g_k25, g_l25, g_p36, g_a25, g_w25, g_k26, g_l26, g_p37, g_a26, g_w26, g_k27, g_l27, g_p38, g_a27, g_w27, g_k28, g_l28, g_p40, g_a28, g_w28, g_k29, g_l29, g_p41, g_a29, g_w29, g_k30, g_l30, g_p42, g_a30, g_w30, g_k31, g_l31, g_p43, g_a31, g_w31, g_k32, g_l32, g_p44, g_a32, g_w32, g_k33, g_l33, g_p45, g_a33, g_w33, g_k34, g_l34, g_p46, g_a34, g_w34, g_f0, g_s0, g_f1, g_s1, g_f2, g_s2, g_f3, g_s3, g_f5, g_s5, g_f6, g_s6, g_f7, g_s7, g_f8, g_s8, g_f9, g_s9, g_f23, g_s23, g_f25, g_s25, g_f28, g_s28, g_f39, g_s39, g_f47, g_s47, gr_ui_eq, gr_ui_2, gr_ul_eq, gr_ul_1, gr_ui_no, gr_ui_ni, gr_ul_no, gr_ul_ni, h8, hv']
      refine c43_39 (by simp) g_k0 (by omega) m_fail (gx_kn ?_) gx_kx
      rw [ef]
      exact b
    · rw [if_neg hv] at e
      have hv' : 0 ≤ v := Int32.not_lt.mp hv
      obtain ⟨k, hk, rfl⟩ := nI_of hv
      rw [nI_clamp hk] at e
      have esz : (gr_ui t 0 6 (nI p)).1 0 5 = nI (gs_n K) := by rw [gr_ui_ni (by decide)]; exact B.1
      by_cases hl : gs_n K - p < k
      · rw [if_pos hl] at e
        have b := bad 68 (-3) p (nI k) (by simp) e (by decide) (by omega)
        have hle : ¬ nI k ≤ nI (gs_n K) - nI p := by rw [nI_sub hpp]; exact nI_ge hl hk
        simp only [r43_0, r43_0n, r43_4, r43_6, r43_9, r43_9n, r43_10, r43_14, r43_15, r43_18, r43_18n, r43_19, r43_23, r43_24, r43_25, r43_25n, r43_26, r43_29, r43_32, r43_33, r43_36, r43_36n, r43_37, r43_42, r43_42n, r43_43, r43_46, r43_49, r43_50, r43_50n, r43_51, r43_54, r43_54n, r43_55, r43_58, r43_59, r43_62, r43_62n, r43_63, r43_69, r43_72, r43_75, r43_75n, r43_76, r43_76i, r43_77, r43_80, r43_81, r43_82, r43_85, r43_86, i32_10, reduceIte, gm_cmp1, gm_cmp3, gm_cmp4, gm_kd_sf, gm_ln_sf, gm_sf_1, gm_sf_2, gm_nw_1, gm_nw_2, gm_k_int, gm_k_ref, gm_k_null, gm_k_u, gm_k_long, and_true, true_and, true_or, or_true, or_false, false_or, and_self, or_self, if_true, if_false, List.map_nil, List.map_cons, List.sum_nil, List.sum_cons, Nat.zero_le, Option.toList_some, Option.toList_none, List.cons_append, List.nil_append, ne_eq, not_false_eq_true, not_true_eq_false, nI_1, nI_add, Value.category, Nat.reduceAdd, Nat.reduceMod, Nat.reduceLeDiff, Nat.reduceLT, Nat.reduceEqDiff, Nat.reducePow, Nat.le_refl, Nat.add_left_cancel_iff, Nat.add_eq_left, Nat.left_eq_add, Nat.add_zero, g_k0, g_k1, g_l1, g_p4, g_a1, g_w1, g_k2, g_l2, g_p10, g_a2, g_w2, g_k3, g_l3, g_p11, g_a3, g_w3, g_k4, g_l4, g_p12, g_a4, g_w4, g_k5, g_l5, g_p13, g_a5, g_w5, g_k6, g_l6, g_p14, g_a6, g_w6, g_k7, g_l7, g_p15, g_a7, g_w7, g_k8, g_l8, g_p16, g_a8, g_w8, g_k9, g_l9, g_p17, g_a9, g_w9, g_k10, g_l10, g_p18, g_a10, g_w10, g_k11, g_l11, g_p19, g_a11, g_w11, g_k12, g_l12, g_p20, g_a12, g_w12, g_k13, g_l13, g_p21, g_a13, g_w13, g_k14, g_l14, g_p22, g_a14, g_w14, g_k15, g_l15, g_p24, g_a15, g_w15, g_k16, g_l16, g_p26, g_a16, g_w16, g_k17, g_l17, g_p27, g_a17, g_w17, g_k18, g_l18, g_p29, g_a18, g_w18, g_k19, g_l19, g_p30, g_a19, g_w19, g_k20, g_l20, g_p31, g_a20, g_w20, g_k21, g_l21, g_p32, g_a21, g_w21, g_k22, g_l22, g_p33, g_a22, g_w22, g_k23, g_l23, g_p34, g_a23, g_w23, g_k24, g_l24, g_p35, g_a24, g_w24, g_k25, g_l25, g_p36, g_a25, g_w25, g_k26, g_l26, g_p37, g_a26, g_w26, g_k27, g_l27, g_p38, g_a27, g_w27, g_k28, g_l28, g_p40, g_a28, g_w28, g_k29, g_l29, g_p41, g_a29, g_w29, g_k30, g_l30, g_p42, g_a30, g_w30, g_k31, g_l31, g_p43, g_a31, g_w31, g_k32, g_l32, g_p44, g_a32, g_w32, g_k33, g_l33, g_p45, g_a33, g_w33, g_k34, g_l34, g_p46, g_a34, g_w34, g_f0, g_s0, g_f1, g_s1, g_f2, g_s2, g_f3, g_s3, g_f5, g_s5, g_f6, g_s6, g_f7, g_s7, g_f8, g_s8, g_f9, g_s9, g_f23, g_s23, g_f25, g_s25, g_f28, g_s28, g_f39, g_s39, g_f47, g_s47, gr_ui_eq, gr_ui_2, gr_ul_eq, gr_ul_1, gr_ui_no, gr_ui_ni, gr_ul_no, gr_ul_ni, h8, hv', B.1, hle]
        refine c43_65 (by simp) g_k0 (by omega) m_fail (gx_kn ?_) gx_kx
        rw [ef]
        exact b
      · rw [if_neg hl] at e
        have hle : nI k ≤ nI (gs_n K) - nI p := by rw [nI_sub hpp]; exact nI_le (by omega) (by omega)
        simp only [r43_0, r43_0n, r43_4, r43_6, r43_9, r43_9n, r43_10, r43_14, r43_15, r43_18, r43_18n, r43_19, r43_23, r43_24, r43_25, r43_25n, r43_26, r43_29, r43_32, r43_33, r43_36, r43_36n, r43_37, r43_42, r43_42n, r43_43, r43_46, r43_49, r43_50, r43_50n, r43_51, r43_54, r43_54n, r43_55, r43_58, r43_59, r43_62, r43_62n, r43_63, r43_68, r43_68n, r43_69, r43_72, r43_75, r43_75n, r43_76, r43_76i, r43_77, r43_80, r43_81, r43_82, r43_85, r43_86, i32_10, reduceIte, gm_cmp1, gm_cmp3, gm_cmp4, gm_kd_sf, gm_ln_sf, gm_sf_1, gm_sf_2, gm_nw_1, gm_nw_2, gm_k_int, gm_k_ref, gm_k_null, gm_k_u, gm_k_long, and_true, true_and, true_or, or_true, or_false, false_or, and_self, or_self, if_true, if_false, List.map_nil, List.map_cons, List.sum_nil, List.sum_cons, Nat.zero_le, Option.toList_some, Option.toList_none, List.cons_append, List.nil_append, ne_eq, not_false_eq_true, not_true_eq_false, nI_1, nI_add, Value.category, Nat.reduceAdd, Nat.reduceMod, Nat.reduceLeDiff, Nat.reduceLT, Nat.reduceEqDiff, Nat.reducePow, Nat.le_refl, Nat.add_left_cancel_iff, Nat.add_eq_left, Nat.left_eq_add, Nat.add_zero, g_k0, g_k1, g_l1, g_p4, g_a1, g_w1, g_k2, g_l2, g_p10, g_a2, g_w2, g_k3, g_l3, g_p11, g_a3, g_w3, g_k4, g_l4, g_p12, g_a4, g_w4, g_k5, g_l5, g_p13, g_a5, g_w5, g_k6, g_l6, g_p14, g_a6, g_w6, g_k7, g_l7, g_p15, g_a7, g_w7, g_k8, g_l8, g_p16, g_a8, g_w8, g_k9, g_l9, g_p17, g_a9, g_w9, g_k10, g_l10, g_p18, g_a10, g_w10, g_k11, g_l11, g_p19, g_a11, g_w11, g_k12, g_l12, g_p20, g_a12, g_w12, g_k13, g_l13, g_p21, g_a13, g_w13, g_k14, g_l14, g_p22, g_a14, g_w14, g_k15, g_l15, g_p24, g_a15, g_w15, g_k16, g_l16, g_p26, g_a16, g_w16, g_k17, g_l17, g_p27, g_a17, g_w17, g_k18, g_l18, g_p29, g_a18, g_w18, g_k19, g_l19, g_p30, g_a19, g_w19, g_k20, g_l20, g_p31, g_a20, g_w20, g_k21, g_l21, g_p32, g_a21, g_w21, g_k22, g_l22, g_p33, g_a22, g_w22, g_k23, g_l23, g_p34, g_a23, g_w23, g_k24, g_l24, g_p35, g_a24, g_w24, g_k25, g_l25, g_p36, g_a25, g_w25, g_k26, g_l26, g_p37, g_a26, g_w26, g_k27, g_l27, g_p38, g_a27, g_w27, g_k28, g_l28, g_p40, g_a28, g_w28, g_k29, g_l29, g_p41, g_a29, g_w29, g_k30, g_l30, g_p42, g_a30, g_w30, g_k31, g_l31, g_p43, g_a31, g_w31, g_k32, g_l32, g_p44, g_a32, g_w32, g_k33, g_l33, g_p45, g_a33, g_w33, g_k34, g_l34, g_p46, g_a34, g_w34, g_f0, g_s0, g_f1, g_s1, g_f2, g_s2, g_f3, g_s3, g_f5, g_s5, g_f6, g_s6, g_f7, g_s7, g_f8, g_s8, g_f9, g_s9, g_f23, g_s23, g_f25, g_s25, g_f28, g_s28, g_f39, g_s39, g_f47, g_s47, gr_ui_eq, gr_ui_2, gr_ul_eq, gr_ul_1, gr_ui_no, gr_ui_ni, gr_ul_no, gr_ul_ni, h8, hv', B.1, hle]
        have q := gr_q_ok (h := h) (m := m) (t := t) (v := fun (n : Int32) (_ : gs_S) => Value.int n) e
        rw [← hQ] at q
        rw [gr_ui_ui]
        exact q
  show gm_W E d 43 0 [.ref m, gm_u] [] (gr_H h m t) Q
  simp only [r43_0, r43_0n, r43_4, r43_6, r43_9, r43_9n, r43_10, r43_14, r43_15, r43_18, r43_18n, r43_19, r43_23, r43_24, r43_26, r43_29, r43_32, r43_33, r43_36, r43_36n, r43_37, r43_42, r43_42n, r43_43, r43_46, r43_49, r43_50, r43_50n, r43_51, r43_54, r43_54n, r43_55, r43_58, r43_59, r43_62, r43_62n, r43_63, r43_68, r43_68n, r43_69, r43_72, r43_75, r43_75n, r43_76, r43_76i, r43_77, r43_80, r43_81, r43_82, r43_85, r43_86, i32_10, reduceIte, gm_cmp1, gm_cmp3, gm_cmp4, gm_kd_sf, gm_ln_sf, gm_sf_1, gm_sf_2, gm_nw_1, gm_nw_2, gm_k_int, gm_k_ref, gm_k_null, gm_k_u, gm_k_long, and_true, true_and, true_or, or_true, or_false, false_or, and_self, or_self, if_true, if_false, List.map_nil, List.map_cons, List.sum_nil, List.sum_cons, Nat.zero_le, Option.toList_some, Option.toList_none, List.cons_append, List.nil_append, ne_eq, not_false_eq_true, not_true_eq_false, nI_1, nI_add, Value.category, Nat.reduceAdd, Nat.reduceMod, Nat.reduceLeDiff, Nat.reduceLT, Nat.reduceEqDiff, Nat.reducePow, Nat.le_refl, Nat.add_left_cancel_iff, Nat.add_eq_left, Nat.left_eq_add, Nat.add_zero]
  by_cases hc : gs_pl s < gs_n K
  · refine c43_1 (by simp) g_k0 (by omega) (m_next2 B.1 hp hn7 hc h8) (gx_kn ?_) gx_kx
    have eb : t.1 1 (gs_pl s) = gs_sb K (gs_pl s) &&& 255 := B.2.2 _ hc
    rw [eb]
    have B1 : gr_B (gr_ui t 0 6 (nI (gs_pl s + 1))) K := B.ui (by decide) (Or.inr (by decide))
    have p1 : (gr_ui t 0 6 (nI (gs_pl s + 1))).1 0 6 = nI (gs_pl s + 1) := gr_ui_eq
    have e8 : (gr_ui t 0 6 (nI (gs_pl s + 1))).1 0 8 = 0 := by rw [gr_ui_ni (by decide)]; exact h8
    have eu : gs_u1 K s = .ok (gs_sb K (gs_pl s) &&& 255, gs_p (gs_pl s + 1) s) := by
      unfold gs_u1 gs_b gs_nxt
      rw [if_neg (by omega)]
      show Except.ok _ = _
      rw [gr_n1]
    -- the length of k bytes
    have num : ∀ (k pc : Nat), k ≤ 8 → (gs_blk K s = match gs_nxt K k (gs_p (gs_pl s + 1) s) with
        | .error f => .error f
        | .ok q => if q.1.toInt32 < 0 then .error (-4) else if gs_n K - gs_pl q.2 < q.1.toInt32.toNatClampNeg then .error (-3) else .ok (q.1.toInt32, gs_p (gs_pl q.2 + q.1.toInt32.toNatClampNeg) q.2)) →
        ∀ (r : gm_R) (h' : gm_H), ((gs_pl s + 1 + k ≤ gs_n K → r = .inl (some (.long (gs_num K (gs_pl s + 1) k))) ∧ h' = gr_H h m (gr_ui (gr_ui t 0 6 (nI (gs_pl s + 1))) 0 6 (nI (gs_pl s + 1 + k)))) ∧ (gs_n K < gs_pl s + 1 + k → ∃ v t', r = .inl (some (.long v)) ∧ h' = gr_H h m t' ∧ gr_er (gr_ui t 0 6 (nI (gs_pl s + 1))) t' (-3))) → ∃ v, r = .inl (some (.long v)) ∧ gm_W E d 43 25 [.ref m, .int v.toInt32] [] h' Q := by
      intro k pc hk e r h' q
      by_cases hl : gs_pl s + 1 + k ≤ gs_n K
      · obtain ⟨q1, q2⟩ := q.1 hl
        subst q1; subst q2
        refine ⟨_, rfl, ?_⟩
        rw [gr_ui_ui]
        refine len _ _ hl ?_
        rw [e]
        unfold gs_nxt
        rw [if_neg (by show ¬ gs_n K - (gs_pl s + 1) < k; omega)]
        rfl
      · obtain ⟨v, t', q1, q2, q3⟩ := q.2 (by omega)
        subst q1; subst q2
        obtain ⟨q4, p, q5, q6⟩ := q3.ui
        subst q6
        refine ⟨_, rfl, bad 25 (-3) p _ (by simp) ?_ (by decide) q5⟩
        rw [e]
        unfold gs_nxt
        rw [if_pos (by show gs_n K - (gs_pl s + 1) < k; omega)]
    by_cases h119 : gs_sb K (gs_pl s) &&& 255 = 119
    · simp only [r43_0, r43_0n, r43_4, r43_6, r43_9, r43_9n, r43_10, r43_14, r43_15, r43_18, r43_18n, r43_19, r43_23, r43_24, r43_26, r43_29, r43_32, r43_33, r43_36, r43_36n, r43_37, r43_42, r43_42n, r43_43, r43_46, r43_49, r43_50, r43_50n, r43_51, r43_54, r43_54n, r43_55, r43_58, r43_59, r43_62, r43_62n, r43_63, r43_68, r43_68n, r43_69, r43_72, r43_75, r43_75n, r43_76, r43_76i, r43_77, r43_80, r43_81, r43_82, r43_85, r43_86, i32_10, reduceIte, gm_cmp1, gm_cmp3, gm_cmp4, gm_kd_sf, gm_ln_sf, gm_sf_1, gm_sf_2, gm_nw_1, gm_nw_2, gm_k_int, gm_k_ref, gm_k_null, gm_k_u, gm_k_long, and_true, true_and, true_or, or_true, or_false, false_or, and_self, or_self, if_true, if_false, List.map_nil, List.map_cons, List.sum_nil, List.sum_cons, Nat.zero_le, Option.toList_some, Option.toList_none, List.cons_append, List.nil_append, ne_eq, not_false_eq_true, not_true_eq_false, nI_1, nI_add, Value.category, Nat.reduceAdd, Nat.reduceMod, Nat.reduceLeDiff, Nat.reduceLT, Nat.reduceEqDiff, Nat.reducePow, Nat.le_refl, Nat.add_left_cancel_iff, Nat.add_eq_left, Nat.left_eq_add, Nat.add_zero, h119]
      have nn := num 1 0 (by decide) (by
        unfold gs_blk gs_b
        rw [eu]
        dsimp only
        rw [if_pos h119]
        unfold gs_u1 gs_b
        cases gs_nxt K 1 (gs_p (gs_pl s + 1) s) <;> rfl)
      refine c43_11 (by simp) g_k0 (by omega) (m_number (k := 1) (by omega) B1 p1 hc e8 (by decide)) (fun v h' q => ?_) (fun x h' q => ?_)
      · obtain ⟨w, hw, g⟩ := nn _ h' q
        cases hw
        simp only [r43_0, r43_0n, r43_4, r43_6, r43_9, r43_9n, r43_10, r43_14, r43_15, r43_18, r43_18n, r43_19, r43_23, r43_24, r43_26, r43_29, r43_32, r43_33, r43_36, r43_36n, r43_37, r43_42, r43_42n, r43_43, r43_46, r43_49, r43_50, r43_50n, r43_51, r43_54, r43_54n, r43_55, r43_58, r43_59, r43_62, r43_62n, r43_63, r43_68, r43_68n, r43_69, r43_72, r43_75, r43_75n, r43_76, r43_76i, r43_77, r43_80, r43_81, r43_82, r43_85, r43_86, i32_10, reduceIte, gm_cmp1, gm_cmp3, gm_cmp4, gm_kd_sf, gm_ln_sf, gm_sf_1, gm_sf_2, gm_nw_1, gm_nw_2, gm_k_int, gm_k_ref, gm_k_null, gm_k_u, gm_k_long, and_true, true_and, true_or, or_true, or_false, false_or, and_self, or_self, if_true, if_false, List.map_nil, List.map_cons, List.sum_nil, List.sum_cons, Nat.zero_le, Option.toList_some, Option.toList_none, List.cons_append, List.nil_append, ne_eq, not_false_eq_true, not_true_eq_false, nI_1, nI_add, Value.category, Nat.reduceAdd, Nat.reduceMod, Nat.reduceLeDiff, Nat.reduceLT, Nat.reduceEqDiff, Nat.reducePow, Nat.le_refl, Nat.add_left_cancel_iff, Nat.add_eq_left, Nat.left_eq_add, Nat.add_zero]
        exact g
      · obtain ⟨w, hw, g⟩ := nn _ h' q
        cases hw
    · simp only [r43_0, r43_0n, r43_4, r43_6, r43_9, r43_9n, r43_10, r43_14, r43_15, r43_18, r43_18n, r43_19, r43_23, r43_24, r43_26, r43_29, r43_32, r43_33, r43_36, r43_36n, r43_37, r43_42, r43_42n, r43_43, r43_46, r43_49, r43_50, r43_50n, r43_51, r43_54, r43_54n, r43_55, r43_58, r43_59, r43_62, r43_62n, r43_63, r43_68, r43_68n, r43_69, r43_72, r43_75, r43_75n, r43_76, r43_76i, r43_77, r43_80, r43_81, r43_82, r43_85, r43_86, i32_10, reduceIte, gm_cmp1, gm_cmp3, gm_cmp4, gm_kd_sf, gm_ln_sf, gm_sf_1, gm_sf_2, gm_nw_1, gm_nw_2, gm_k_int, gm_k_ref, gm_k_null, gm_k_u, gm_k_long, and_true, true_and, true_or, or_true, or_false, false_or, and_self, or_self, if_true, if_false, List.map_nil, List.map_cons, List.sum_nil, List.sum_cons, Nat.zero_le, Option.toList_some, Option.toList_none, List.cons_append, List.nil_append, ne_eq, not_false_eq_true, not_true_eq_false, nI_1, nI_add, Value.category, Nat.reduceAdd, Nat.reduceMod, Nat.reduceLeDiff, Nat.reduceLT, Nat.reduceEqDiff, Nat.reducePow, Nat.le_refl, Nat.add_left_cancel_iff, Nat.add_eq_left, Nat.left_eq_add, Nat.add_zero, h119]
      have nn := num 4 0 (by decide) (by
        unfold gs_blk gs_b
        rw [eu]
        dsimp only
        rw [if_neg h119]
        unfold gs_u4 gs_b
        cases gs_nxt K 4 (gs_p (gs_pl s + 1) s) <;> rfl)
      refine c43_20 (by simp) g_k0 (by omega) (m_number (k := 4) (by omega) B1 p1 hc e8 (by decide)) (fun v h' q => ?_) (fun x h' q => ?_)
      · obtain ⟨w, hw, g⟩ := nn _ h' q
        cases hw
        simp only [r43_0, r43_0n, r43_4, r43_6, r43_9, r43_9n, r43_10, r43_14, r43_15, r43_18, r43_18n, r43_19, r43_23, r43_24, r43_26, r43_29, r43_32, r43_33, r43_36, r43_36n, r43_37, r43_42, r43_42n, r43_43, r43_46, r43_49, r43_50, r43_50n, r43_51, r43_54, r43_54n, r43_55, r43_58, r43_59, r43_62, r43_62n, r43_63, r43_68, r43_68n, r43_69, r43_72, r43_75, r43_75n, r43_76, r43_76i, r43_77, r43_80, r43_81, r43_82, r43_85, r43_86, i32_10, reduceIte, gm_cmp1, gm_cmp3, gm_cmp4, gm_kd_sf, gm_ln_sf, gm_sf_1, gm_sf_2, gm_nw_1, gm_nw_2, gm_k_int, gm_k_ref, gm_k_null, gm_k_u, gm_k_long, and_true, true_and, true_or, or_true, or_false, false_or, and_self, or_self, if_true, if_false, List.map_nil, List.map_cons, List.sum_nil, List.sum_cons, Nat.zero_le, Option.toList_some, Option.toList_none, List.cons_append, List.nil_append, ne_eq, not_false_eq_true, not_true_eq_false, nI_1, nI_add, Value.category, Nat.reduceAdd, Nat.reduceMod, Nat.reduceLeDiff, Nat.reduceLT, Nat.reduceEqDiff, Nat.reducePow, Nat.le_refl, Nat.add_left_cancel_iff, Nat.add_eq_left, Nat.left_eq_add, Nat.add_zero]
        exact g
      · obtain ⟨w, hw, g⟩ := nn _ h' q
        cases hw
  · have hpe : gs_pl s = gs_n K := by omega
    refine c43_1 (by simp) g_k0 (by omega) (m_next0 (by omega) B.1 hp (by omega) (by omega)) (gx_kn ?_) gx_kx
    have ef : gr_fl t (-3) = gr_ui (gr_ui t 0 6 (nI (gs_pl s))) 0 8 (-3) := by unfold gr_fl; rw [if_pos h8, gr_ui_id hp]
    rw [ef]
    have B2 : gr_B (gr_ui (gr_ui t 0 6 (nI (gs_pl s))) 0 8 (-3)) K := (B.ui (by decide) (Or.inr (by decide))).ui (by decide) (Or.inr (by decide))
    have p2 : (gr_ui (gr_ui t 0 6 (nI (gs_pl s))) 0 8 (-3)).1 0 6 = nI (gs_pl s) := by rw [gr_ui_ni (by decide), gr_ui_eq]
    have n0 : ¬ (0 : Int32) = 119 := by decide
    simp only [r43_0, r43_0n, r43_4, r43_6, r43_9, r43_9n, r43_10, r43_14, r43_15, r43_18, r43_18n, r43_19, r43_23, r43_24, r43_26, r43_29, r43_32, r43_33, r43_36, r43_36n, r43_37, r43_42, r43_42n, r43_43, r43_46, r43_49, r43_50, r43_50n, r43_51, r43_54, r43_54n, r43_55, r43_58, r43_59, r43_62, r43_62n, r43_63, r43_68, r43_68n, r43_69, r43_72, r43_75, r43_75n, r43_76, r43_76i, r43_77, r43_80, r43_81, r43_82, r43_85, r43_86, i32_10, reduceIte, gm_cmp1, gm_cmp3, gm_cmp4, gm_kd_sf, gm_ln_sf, gm_sf_1, gm_sf_2, gm_nw_1, gm_nw_2, gm_k_int, gm_k_ref, gm_k_null, gm_k_u, gm_k_long, and_true, true_and, true_or, or_true, or_false, false_or, and_self, or_self, if_true, if_false, List.map_nil, List.map_cons, List.sum_nil, List.sum_cons, Nat.zero_le, Option.toList_some, Option.toList_none, List.cons_append, List.nil_append, ne_eq, not_false_eq_true, not_true_eq_false, nI_1, nI_add, Value.category, Nat.reduceAdd, Nat.reduceMod, Nat.reduceLeDiff, Nat.reduceLT, Nat.reduceEqDiff, Nat.reducePow, Nat.le_refl, Nat.add_left_cancel_iff, Nat.add_eq_left, Nat.left_eq_add, Nat.add_zero, n0]
    refine c43_20 (by simp) g_k0 (by omega) (m_numberF (k := 4) (by omega) B2 p2 (by omega) (by rw [gr_ui_eq]; decide) (by decide)) (fun v h' q => ?_) (fun x h' q => ?_)
    · obtain ⟨w, hw, g⟩ := q
      cases hw
      subst g
      simp only [r43_0, r43_0n, r43_4, r43_6, r43_9, r43_9n, r43_10, r43_14, r43_15, r43_18, r43_18n, r43_19, r43_23, r43_24, r43_26, r43_29, r43_32, r43_33, r43_36, r43_36n, r43_37, r43_42, r43_42n, r43_43, r43_46, r43_49, r43_50, r43_50n, r43_51, r43_54, r43_54n, r43_55, r43_58, r43_59, r43_62, r43_62n, r43_63, r43_68, r43_68n, r43_69, r43_72, r43_75, r43_75n, r43_76, r43_76i, r43_77, r43_80, r43_81, r43_82, r43_85, r43_86, i32_10, reduceIte, gm_cmp1, gm_cmp3, gm_cmp4, gm_kd_sf, gm_ln_sf, gm_sf_1, gm_sf_2, gm_nw_1, gm_nw_2, gm_k_int, gm_k_ref, gm_k_null, gm_k_u, gm_k_long, and_true, true_and, true_or, or_true, or_false, false_or, and_self, or_self, if_true, if_false, List.map_nil, List.map_cons, List.sum_nil, List.sum_cons, Nat.zero_le, Option.toList_some, Option.toList_none, List.cons_append, List.nil_append, ne_eq, not_false_eq_true, not_true_eq_false, nI_1, nI_add, Value.category, Nat.reduceAdd, Nat.reduceMod, Nat.reduceLeDiff, Nat.reduceLT, Nat.reduceEqDiff, Nat.reducePow, Nat.le_refl, Nat.add_left_cancel_iff, Nat.add_eq_left, Nat.left_eq_add, Nat.add_zero]
      refine bad 25 (-3) _ _ (by simp) ?_ (by decide) (by omega)
      unfold gs_blk gs_b gs_u1 gs_b gs_nxt
      rw [if_pos (by omega)]
    · obtain ⟨w, hw, g⟩ := q
      cases hw
/-- all but place, lasting fault and fault stays -/
def gr_ke (t t' : gr_t) : Prop := t'.2 = t.2 ∧ ∀ o i, (o = 0 → i ≠ 6 ∧ i ≠ 7 ∧ i ≠ 8) → t'.1 o i = t.1 o i
theorem gr_ke.refl : gr_ke t t := ⟨rfl, fun _ _ _ => rfl⟩
theorem gr_ke.ui {t t' : gr_t} {i : Nat} {x : Int32} (k : gr_ke t t') (hi : i = 6 ∨ i = 7 ∨ i = 8) : gr_ke t (gr_ui t' 0 i x) := by
  refine ⟨k.1, fun o j hj => ?_⟩
  by_cases e : o = 0
  · have z := hj e
    subst e
    rw [gr_ui_ni (by omega)]
    exact k.2 0 j hj
  · rw [gr_ui_no e]
    exact k.2 o j hj
theorem m_passBlock {lf : Int32} (hd : 4 ≤ d) (B : gr_B t K) (hp : t.1 0 6 = nI (gs_pl s)) (hpn : gs_pl s ≤ gs_n K) (h7 : t.1 0 7 = lf) : gm_Ca E d 47 [.ref m] (gr_H h m t) (fun r h' => r = .inl (some (.int (gs_pass K s lf).1)) ∧ ∃ t', h' = gr_H h m t' ∧ gr_ke t t' ∧ t'.1 0 6 = nI (gs_pl (gs_pass K s lf).2.1) ∧ t'.1 0 7 = (gs_pass K s lf).2.2) := by
  obtain ⟨Q, hQ⟩ : ∃ Q : gm_R → gm_H → Prop, Q = (fun r h' => r = .inl (some (.int (gs_pass K s lf).1)) ∧ ∃ t', h' = gr_H h m t' ∧ gr_ke t t' ∧ t'.1 0 6 = nI (gs_pl (gs_pass K s lf).2.1) ∧ t'.1 0 7 = (gs_pass K s lf).2.2) := ⟨_, rfl⟩
  rw [← hQ]
  have hn7 := B.2.1
  show gm_W E d 47 0 [.ref m, gm_u, gm_u] [] (gr_H h m t) Q
  by_cases hl : lf = 0
  · have none : (gs_n K ≤ gs_pl s ∨ gs_isB (gs_sb K (gs_pl s)) = false) → Q (.inl (some (.int (-1)))) (gr_H h m t) := by
      intro z
      have e : gs_pass K s lf = (-1, s, 0) := by unfold gs_pass; rw [if_neg (by simpa using hl), if_pos z]
      rw [hQ]
      dsimp only
      rw [e]
      exact ⟨rfl, t, rfl, gr_ke.refl, hp, by rw [h7, hl]⟩
    have some : ¬ (gs_n K ≤ gs_pl s ∨ gs_isB (gs_sb K (gs_pl s)) = false) → gm_W E d 47 53 [.ref m, gm_u, gm_u] [] (gr_H h m t) Q := by
      intro z
      have B1 : gr_B (gr_ui t 0 8 0) K := B.ui (by decide) (Or.inr (by decide))
      have p1 : (gr_ui t 0 8 0).1 0 6 = nI (gs_pl s) := by rw [gr_ui_ni (by decide)]; exact hp
      simp only [r47_0, r47_0n, r47_1, r47_4, r47_7, r47_7n, r47_8, r47_11, r47_12, r47_12n, r47_13, r47_16, r47_16n, r47_17, r47_20, r47_23, r47_23n, r47_24, r47_27, r47_27n, r47_28, r47_31, r47_32, r47_34, r47_37, r47_37n, r47_38, r47_41, r47_41n, r47_42, r47_45, r47_46, r47_48, r47_51, r47_52, r47_53, r47_53n, r47_54, r47_57, r47_58, r47_58n, r47_59, r47_60, r47_63, r47_63n, r47_67, r47_68, r47_68n, r47_69, r47_72, r47_75, r47_76, r47_77, r47_77n, r47_78, r47_79, r47_82, r47_82n, r47_83, r47_83n, r47_84, r47_87, r47_90, r47_90n, r47_91, r47_94, i32_10, reduceIte, gm_cmp1, gm_cmp3, gm_cmp4, gm_kd_sf, gm_ln_sf, gm_sf_1, gm_sf_2, gm_nw_1, gm_nw_2, gm_k_int, gm_k_ref, gm_k_null, gm_k_u, gm_k_long, and_true, true_and, true_or, or_true, or_false, false_or, and_self, or_self, if_true, if_false, List.map_nil, List.map_cons, List.sum_nil, List.sum_cons, Nat.zero_le, Option.toList_some, Option.toList_none, List.cons_append, List.nil_append, ne_eq, not_false_eq_true, not_true_eq_false, nI_1, nI_add, Value.category, Nat.reduceAdd, Nat.reduceMod, Nat.reduceLeDiff, Nat.reduceLT, Nat.reduceEqDiff, Nat.reducePow, Nat.le_refl, Nat.add_left_cancel_iff, Nat.add_eq_left, Nat.left_eq_add, Nat.add_zero, g_k0, g_k1, g_l1, g_p4, g_a1, g_w1, g_k2, g_l2, g_p10, g_a2, g_w2, g_k3, g_l3, g_p11, g_a3, g_w3, g_k4, g_l4, g_p12, g_a4, g_w4, g_k5, g_l5, g_p13, g_a5, g_w5, g_k6, g_l6, g_p14, g_a6, g_w6, g_k7, g_l7, g_p15, g_a7, g_w7, g_k8, g_l8, g_p16, g_a8, g_w8, g_k9, g_l9, g_p17, g_a9, g_w9, g_k10, g_l10, g_p18, g_a10, g_w10, g_k11, g_l11, g_p19, g_a11, g_w11, g_k12, g_l12, g_p20, g_a12, g_w12, g_k13, g_l13, g_p21, g_a13, g_w13, g_k14, g_l14, g_p22, g_a14, g_w14, g_k15, g_l15, g_p24, g_a15, g_w15, g_k16, g_l16, g_p26, g_a16, g_w16, g_k17, g_l17, g_p27, g_a17, g_w17, g_k18, g_l18, g_p29, g_a18, g_w18, g_k19, g_l19, g_p30, g_a19, g_w19, g_k20, g_l20, g_p31, g_a20, g_w20, g_k21, g_l21, g_p32, g_a21, g_w21, g_k22, g_l22, g_p33, g_a22, g_w22, g_k23, g_l23, g_p34, g_a23, g_w23, g_k24, g_l24, g_p35, g_a24, g_w24, g_k25, g_l25, g_p36, g_a25, g_w25, g_k26, g_l26, g_p37, g_a26, g_w26, g_k27, g_l27, g_p38, g_a27, g_w27, g_k28, g_l28, g_p40, g_a28, g_w28, g_k29, g_l29, g_p41, g_a29, g_w29, g_k30, g_l30, g_p42, g_a30, g_w30, g_k31, g_l31, g_p43, g_a31, g_w31, g_k32, g_l32, g_p44, g_a32, g_w32, g_k33, g_l33, g_p45, g_a33, g_w33, g_k34, g_l34, g_p46, g_a34, g_w34, g_f0, g_s0, g_f1, g_s1, g_f2, g_s2, g_f3, g_s3, g_f5, g_s5, g_f6, g_s6, g_f7, g_s7, g_f8, g_s8, g_f9, g_s9, g_f23, g_s23, g_f25, g_s25, g_f28, g_s28, g_f39, g_s39, g_f47, g_s47, gr_ui_eq, gr_ui_2, gr_ul_eq, gr_ul_1, gr_ui_no, gr_ui_ni, gr_ul_no, gr_ul_ni, hp]
      refine c47_64 (by simp) g_k0 (by omega) (m_block (s := s) (by omega) B1 p1 hpn gr_ui_eq) (fun v h' q => ?_) (fun x h' q => ?_)
      · cases e : gs_blk K s with
        | ok w =>
          rw [e] at q
          obtain ⟨q1, q2⟩ := q
          cases q1
          subst q2
          simp only [r47_0, r47_0n, r47_1, r47_4, r47_7, r47_7n, r47_8, r47_11, r47_12, r47_12n, r47_13, r47_16, r47_16n, r47_17, r47_20, r47_23, r47_23n, r47_24, r47_27, r47_27n, r47_28, r47_31, r47_32, r47_34, r47_37, r47_37n, r47_38, r47_41, r47_41n, r47_42, r47_45, r47_46, r47_48, r47_51, r47_52, r47_53, r47_53n, r47_54, r47_57, r47_58, r47_58n, r47_59, r47_60, r47_63, r47_63n, r47_67, r47_68, r47_68n, r47_69, r47_72, r47_75, r47_76, r47_77, r47_77n, r47_78, r47_79, r47_82, r47_82n, r47_83, r47_83n, r47_84, r47_87, r47_90, r47_90n, r47_91, r47_94, i32_10, reduceIte, gm_cmp1, gm_cmp3, gm_cmp4, gm_kd_sf, gm_ln_sf, gm_sf_1, gm_sf_2, gm_nw_1, gm_nw_2, gm_k_int, gm_k_ref, gm_k_null, gm_k_u, gm_k_long, and_true, true_and, true_or, or_true, or_false, false_or, and_self, or_self, if_true, if_false, List.map_nil, List.map_cons, List.sum_nil, List.sum_cons, Nat.zero_le, Option.toList_some, Option.toList_none, List.cons_append, List.nil_append, ne_eq, not_false_eq_true, not_true_eq_false, nI_1, nI_add, Value.category, Nat.reduceAdd, Nat.reduceMod, Nat.reduceLeDiff, Nat.reduceLT, Nat.reduceEqDiff, Nat.reducePow, Nat.le_refl, Nat.add_left_cancel_iff, Nat.add_eq_left, Nat.left_eq_add, Nat.add_zero, g_k0, g_k1, g_l1, g_p4, g_a1, g_w1, g_k2, g_l2, g_p10, g_a2, g_w2, g_k3, g_l3, g_p11, g_a3, g_w3, g_k4, g_l4, g_p12, g_a4, g_w4, g_k5, g_l5, g_p13, g_a5, g_w5, g_k6, g_l6, g_p14, g_a6, g_w6, g_k7, g_l7, g_p15, g_a7, g_w7, g_k8, g_l8, g_p16, g_a8, g_w8, g_k9, g_l9, g_p17, g_a9, g_w9, g_k10, g_l10, g_p18, g_a10, g_w10, g_k11, g_l11, g_p19, g_a11, g_w11, g_k12, g_l12, g_p20, g_a12, g_w12, g_k13, g_l13, g_p21, g_a13, g_w13, g_k14, g_l14, g_p22, g_a14, g_w14, g_k15, g_l15, g_p24, g_a15, g_w15, g_k16, g_l16, g_p26, g_a16, g_w16, g_k17, g_l17, g_p27, g_a17, g_w17, g_k18, g_l18, g_p29, g_a18, g_w18, g_k19, g_l19, g_p30, g_a19, g_w19, g_k20, g_l20, g_p31, g_a20, g_w20, g_k21, g_l21, g_p32, g_a21, g_w21, g_k22, g_l22, g_p33, g_a22, g_w22, g_k23, g_l23, g_p34, g_a23, g_w23, g_k24, g_l24, g_p35, g_a24, g_w24, g_k25, g_l25, g_p36, g_a25, g_w25, g_k26, g_l26, g_p37, g_a26, g_w26, g_k27, g_l27, g_p38, g_a27, g_w27, g_k28, g_l28, g_p40, g_a28, g_w28, g_k29, g_l29, g_p41, g_a29, g_w29, g_k30, g_l30, g_p42, g_a30, g_w30, g_k31, g_l31, g_p43, g_a31, g_w31, g_k32, g_l32, g_p44, g_a32, g_w32, g_k33, g_l33, g_p45, g_a33, g_w33, g_k34, g_l34, g_p46, g_a34, g_w34, g_f0, g_s0, g_f1, g_s1, g_f2, g_s2, g_f3, g_s3, g_f5, g_s5, g_f6, g_s6, g_f7, g_s7, g_f8, g_s8, g_f9, g_s9, g_f23, g_s23, g_f25, g_s25, g_f28, g_s28, g_f39, g_s39, g_f47, g_s47, gr_ui_eq, gr_ui_2, gr_ul_eq, gr_ul_1, gr_ui_no, gr_ui_ni, gr_ul_no, gr_ul_ni]
          have ep : gs_pass K s lf = (w.1, w.2, 0) := by unfold gs_pass; rw [if_neg (by simpa using hl), if_neg z, e]
          rw [hQ]
          dsimp only
          rw [ep]
          exact ⟨rfl, _, rfl, (gr_ke.refl.ui (by simp)).ui (by simp), gr_ui_eq, by rw [gr_ui_ni (by decide), gr_ui_ni (by decide), h7, hl]⟩
        | error f =>
          rw [e] at q
          obtain ⟨w, t', q1, q2, q3, p, q4, q5⟩ := q
          have ep : gs_pass K s lf = (f, s, f) := by unfold gs_pass; rw [if_neg (by simpa using hl), if_neg z, e]
          cases q1
          subst q2
          subst q5
          simp only [r47_0, r47_0n, r47_1, r47_4, r47_7, r47_7n, r47_8, r47_11, r47_12, r47_12n, r47_13, r47_16, r47_16n, r47_17, r47_20, r47_23, r47_23n, r47_24, r47_27, r47_27n, r47_28, r47_31, r47_32, r47_34, r47_37, r47_37n, r47_38, r47_41, r47_41n, r47_42, r47_45, r47_46, r47_48, r47_51, r47_52, r47_53, r47_53n, r47_54, r47_57, r47_58, r47_58n, r47_59, r47_60, r47_63, r47_63n, r47_67, r47_68, r47_68n, r47_69, r47_72, r47_75, r47_76, r47_77, r47_77n, r47_78, r47_79, r47_82, r47_82n, r47_83, r47_83n, r47_84, r47_87, r47_90, r47_90n, r47_91, r47_94, i32_10, reduceIte, gm_cmp1, gm_cmp3, gm_cmp4, gm_kd_sf, gm_ln_sf, gm_sf_1, gm_sf_2, gm_nw_1, gm_nw_2, gm_k_int, gm_k_ref, gm_k_null, gm_k_u, gm_k_long, and_true, true_and, true_or, or_true, or_false, false_or, and_self, or_self, if_true, if_false, List.map_nil, List.map_cons, List.sum_nil, List.sum_cons, Nat.zero_le, Option.toList_some, Option.toList_none, List.cons_append, List.nil_append, ne_eq, not_false_eq_true, not_true_eq_false, nI_1, nI_add, Value.category, Nat.reduceAdd, Nat.reduceMod, Nat.reduceLeDiff, Nat.reduceLT, Nat.reduceEqDiff, Nat.reducePow, Nat.le_refl, Nat.add_left_cancel_iff, Nat.add_eq_left, Nat.left_eq_add, Nat.add_zero, g_k0, g_k1, g_l1, g_p4, g_a1, g_w1, g_k2, g_l2, g_p10, g_a2, g_w2, g_k3, g_l3, g_p11, g_a3, g_w3, g_k4, g_l4, g_p12, g_a4, g_w4, g_k5, g_l5, g_p13, g_a5, g_w5, g_k6, g_l6, g_p14, g_a6, g_w6, g_k7, g_l7, g_p15, g_a7, g_w7, g_k8, g_l8, g_p16, g_a8, g_w8, g_k9, g_l9, g_p17, g_a9, g_w9, g_k10, g_l10, g_p18, g_a10, g_w10, g_k11, g_l11, g_p19, g_a11, g_w11, g_k12, g_l12, g_p20, g_a12, g_w12, g_k13, g_l13, g_p21, g_a13, g_w13, g_k14, g_l14, g_p22, g_a14, g_w14, g_k15, g_l15, g_p24, g_a15, g_w15, g_k16, g_l16, g_p26, g_a16, g_w16, g_k17, g_l17, g_p27, g_a17, g_w17, g_k18, g_l18, g_p29, g_a18, g_w18, g_k19, g_l19, g_p30, g_a19, g_w19, g_k20, g_l20, g_p31, g_a20, g_w20, g_k21, g_l21, g_p32, g_a21, g_w21, g_k22, g_l22, g_p33, g_a22, g_w22, g_k23, g_l23, g_p34, g_a23, g_w23, g_k24, g_l24, g_p35, g_a24, g_w24, g_k25, g_l25, g_p36, g_a25, g_w25, g_k26, g_l26, g_p37, g_a26, g_w26, g_k27, g_l27, g_p38, g_a27, g_w27, g_k28, g_l28, g_p40, g_a28, g_w28, g_k29, g_l29, g_p41, g_a29, g_w29, g_k30, g_l30, g_p42, g_a30, g_w30, g_k31, g_l31, g_p43, g_a31, g_w31, g_k32, g_l32, g_p44, g_a32, g_w32, g_k33, g_l33, g_p45, g_a33, g_w33, g_k34, g_l34, g_p46, g_a34, g_w34, g_f0, g_s0, g_f1, g_s1, g_f2, g_s2, g_f3, g_s3, g_f5, g_s5, g_f6, g_s6, g_f7, g_s7, g_f8, g_s8, g_f9, g_s9, g_f23, g_s23, g_f25, g_s25, g_f28, g_s28, g_f39, g_s39, g_f47, g_s47, gr_ui_eq, gr_ui_2, gr_ul_eq, gr_ul_1, gr_ui_no, gr_ui_ni, gr_ul_no, gr_ul_ni, q3]
          rw [hQ]
          dsimp only
          rw [ep]
          refine ⟨rfl, _, rfl, ((((gr_ke.refl.ui (by simp)).ui (by simp)).ui (by simp)).ui (by simp)).ui (by simp), ?_, ?_⟩
          · rw [gr_ui_ni (by decide), gr_ui_eq]
          · rw [gr_ui_eq]
      · cases e : gs_blk K s with
        | ok w => rw [e] at q; cases q.1
        | error f =>
          rw [e] at q
          obtain ⟨w, t', q1, -⟩ := q
          cases q1
    subst hl
    by_cases hc : gs_pl s < gs_n K
    · have eb : t.1 1 (gs_pl s) = gs_sb K (gs_pl s) &&& 255 := B.2.2 _ hc
      have h700 : gs_pl s < 720 := by omega
      obtain ⟨i119, i122, -, -⟩ := gr_by (K := K) (i := gs_pl s)
      obtain ⟨v, hv⟩ : ∃ v, v = gs_sb K (gs_pl s) &&& 255 := ⟨_, rfl⟩
      rw [← hv] at eb i119 i122
      by_cases a : v = 119
      · have g := some (by
          intro z
          rcases z with z | z
          · omega
          · unfold gs_isB at z
            rw [i119.mp a] at z
            simp at z)
        simp only [r47_0, r47_0n, r47_1, r47_4, r47_7, r47_7n, r47_8, r47_11, r47_12, r47_12n, r47_13, r47_16, r47_16n, r47_17, r47_20, r47_23, r47_23n, r47_24, r47_27, r47_27n, r47_28, r47_31, r47_32, r47_34, r47_37, r47_37n, r47_38, r47_41, r47_41n, r47_42, r47_45, r47_46, r47_48, r47_51, r47_52, r47_54, r47_57, r47_58, r47_58n, r47_59, r47_60, r47_63, r47_63n, r47_67, r47_68, r47_68n, r47_69, r47_72, r47_75, r47_76, r47_77, r47_77n, r47_78, r47_79, r47_82, r47_82n, r47_83, r47_83n, r47_84, r47_87, r47_90, r47_90n, r47_91, r47_94, i32_10, reduceIte, gm_cmp1, gm_cmp3, gm_cmp4, gm_kd_sf, gm_ln_sf, gm_sf_1, gm_sf_2, gm_nw_1, gm_nw_2, gm_k_int, gm_k_ref, gm_k_null, gm_k_u, gm_k_long, and_true, true_and, true_or, or_true, or_false, false_or, and_self, or_self, if_true, if_false, List.map_nil, List.map_cons, List.sum_nil, List.sum_cons, Nat.zero_le, Option.toList_some, Option.toList_none, List.cons_append, List.nil_append, ne_eq, not_false_eq_true, not_true_eq_false, nI_1, nI_add, Value.category, Nat.reduceAdd, Nat.reduceMod, Nat.reduceLeDiff, Nat.reduceLT, Nat.reduceEqDiff, Nat.reducePow, Nat.le_refl, Nat.add_left_cancel_iff, Nat.add_eq_left, Nat.left_eq_add, Nat.add_zero, g_k0, g_k1, g_l1, g_p4, g_a1, g_w1, g_k2, g_l2, g_p10, g_a2, g_w2, g_k3, g_l3, g_p11, g_a3, g_w3, g_k4, g_l4, g_p12, g_a4, g_w4, g_k5, g_l5, g_p13, g_a5, g_w5, g_k6, g_l6, g_p14, g_a6, g_w6, g_k7, g_l7, g_p15, g_a7, g_w7, g_k8, g_l8, g_p16, g_a8, g_w8, g_k9, g_l9, g_p17, g_a9, g_w9, g_k10, g_l10, g_p18, g_a10, g_w10, g_k11, g_l11, g_p19, g_a11, g_w11, g_k12, g_l12, g_p20, g_a12, g_w12, g_k13, g_l13, g_p21, g_a13, g_w13, g_k14, g_l14, g_p22, g_a14, g_w14, g_k15, g_l15, g_p24, g_a15, g_w15, g_k16, g_l16, g_p26, g_a16, g_w16, g_k17, g_l17, g_p27, g_a17, g_w17, g_k18, g_l18, g_p29, g_a18, g_w18, g_k19, g_l19, g_p30, g_a19, g_w19, g_k20, g_l20, g_p31, g_a20, g_w20, g_k21, g_l21, g_p32, g_a21, g_w21, g_k22, g_l22, g_p33, g_a22, g_w22, g_k23, g_l23, g_p34, g_a23, g_w23, g_k24, g_l24, g_p35, g_a24, g_w24, g_k25, g_l25, g_p36, g_a25, g_w25, g_k26, g_l26, g_p37, g_a26, g_w26, g_k27, g_l27, g_p38, g_a27, g_w27, g_k28, g_l28, g_p40, g_a28, g_w28, g_k29, g_l29, g_p41, g_a29, g_w29, g_k30, g_l30, g_p42, g_a30, g_w30, g_k31, g_l31, g_p43, g_a31, g_w31, g_k32, g_l32, g_p44, g_a32, g_w32, g_k33, g_l33, g_p45, g_a33, g_w33, g_k34, g_l34, g_p46, g_a34, g_w34, g_f0, g_s0, g_f1, g_s1, g_f2, g_s2, g_f3, g_s3, g_f5, g_s5, g_f6, g_s6, g_f7, g_s7, g_f8, g_s8, g_f9, g_s9, g_f23, g_s23, g_f25, g_s25, g_f28, g_s28, g_f39, g_s39, g_f47, g_s47, gr_ui_eq, gr_ui_2, gr_ul_eq, gr_ul_1, gr_ui_no, gr_ui_ni, gr_ul_no, gr_ul_ni, h7, hp, B.1, nI_leF hc (show gs_n K < 2 ^ 31 by omega), h700, eb, a]
        exact g
      by_cases b : v = 122
      · have g := some (by
          intro z
          rcases z with z | z
          · omega
          · unfold gs_isB at z
            rw [i122.mp b] at z
            simp at z)
        simp only [r47_0, r47_0n, r47_1, r47_4, r47_7, r47_7n, r47_8, r47_11, r47_12, r47_12n, r47_13, r47_16, r47_16n, r47_17, r47_20, r47_23, r47_23n, r47_24, r47_27, r47_27n, r47_28, r47_31, r47_32, r47_34, r47_37, r47_37n, r47_38, r47_41, r47_41n, r47_42, r47_45, r47_46, r47_48, r47_51, r47_52, r47_54, r47_57, r47_58, r47_58n, r47_59, r47_60, r47_63, r47_63n, r47_67, r47_68, r47_68n, r47_69, r47_72, r47_75, r47_76, r47_77, r47_77n, r47_78, r47_79, r47_82, r47_82n, r47_83, r47_83n, r47_84, r47_87, r47_90, r47_90n, r47_91, r47_94, i32_10, reduceIte, gm_cmp1, gm_cmp3, gm_cmp4, gm_kd_sf, gm_ln_sf, gm_sf_1, gm_sf_2, gm_nw_1, gm_nw_2, gm_k_int, gm_k_ref, gm_k_null, gm_k_u, gm_k_long, and_true, true_and, true_or, or_true, or_false, false_or, and_self, or_self, if_true, if_false, List.map_nil, List.map_cons, List.sum_nil, List.sum_cons, Nat.zero_le, Option.toList_some, Option.toList_none, List.cons_append, List.nil_append, ne_eq, not_false_eq_true, not_true_eq_false, nI_1, nI_add, Value.category, Nat.reduceAdd, Nat.reduceMod, Nat.reduceLeDiff, Nat.reduceLT, Nat.reduceEqDiff, Nat.reducePow, Nat.le_refl, Nat.add_left_cancel_iff, Nat.add_eq_left, Nat.left_eq_add, Nat.add_zero, g_k0, g_k1, g_l1, g_p4, g_a1, g_w1, g_k2, g_l2, g_p10, g_a2, g_w2, g_k3, g_l3, g_p11, g_a3, g_w3, g_k4, g_l4, g_p12, g_a4, g_w4, g_k5, g_l5, g_p13, g_a5, g_w5, g_k6, g_l6, g_p14, g_a6, g_w6, g_k7, g_l7, g_p15, g_a7, g_w7, g_k8, g_l8, g_p16, g_a8, g_w8, g_k9, g_l9, g_p17, g_a9, g_w9, g_k10, g_l10, g_p18, g_a10, g_w10, g_k11, g_l11, g_p19, g_a11, g_w11, g_k12, g_l12, g_p20, g_a12, g_w12, g_k13, g_l13, g_p21, g_a13, g_w13, g_k14, g_l14, g_p22, g_a14, g_w14, g_k15, g_l15, g_p24, g_a15, g_w15, g_k16, g_l16, g_p26, g_a16, g_w16, g_k17, g_l17, g_p27, g_a17, g_w17, g_k18, g_l18, g_p29, g_a18, g_w18, g_k19, g_l19, g_p30, g_a19, g_w19, g_k20, g_l20, g_p31, g_a20, g_w20, g_k21, g_l21, g_p32, g_a21, g_w21, g_k22, g_l22, g_p33, g_a22, g_w22, g_k23, g_l23, g_p34, g_a23, g_w23, g_k24, g_l24, g_p35, g_a24, g_w24, g_k25, g_l25, g_p36, g_a25, g_w25, g_k26, g_l26, g_p37, g_a26, g_w26, g_k27, g_l27, g_p38, g_a27, g_w27, g_k28, g_l28, g_p40, g_a28, g_w28, g_k29, g_l29, g_p41, g_a29, g_w29, g_k30, g_l30, g_p42, g_a30, g_w30, g_k31, g_l31, g_p43, g_a31, g_w31, g_k32, g_l32, g_p44, g_a32, g_w32, g_k33, g_l33, g_p45, g_a33, g_w33, g_k34, g_l34, g_p46, g_a34, g_w34, g_f0, g_s0, g_f1, g_s1, g_f2, g_s2, g_f3, g_s3, g_f5, g_s5, g_f6, g_s6, g_f7, g_s7, g_f8, g_s8, g_f9, g_s9, g_f23, g_s23, g_f25, g_s25, g_f28, g_s28, g_f39, g_s39, g_f47, g_s47, gr_ui_eq, gr_ui_2, gr_ul_eq, gr_ul_1, gr_ui_no, gr_ui_ni, gr_ul_no, gr_ul_ni, h7, hp, B.1, nI_leF hc (show gs_n K < 2 ^ 31 by omega), h700, eb, a, b]
        exact g
      · have g := none (Or.inr (by
          unfold gs_isB
          have a' : ¬ gs_sb K (gs_pl s) = 119 := fun z => a (i119.mpr z)
          have b' : ¬ gs_sb K (gs_pl s) = 122 := fun z => b (i122.mpr z)
          simp [a', b']))
        simp only [r47_0, r47_0n, r47_1, r47_4, r47_7, r47_7n, r47_8, r47_11, r47_12, r47_12n, r47_13, r47_16, r47_16n, r47_17, r47_20, r47_23, r47_23n, r47_24, r47_27, r47_27n, r47_28, r47_31, r47_32, r47_34, r47_37, r47_37n, r47_38, r47_41, r47_41n, r47_42, r47_45, r47_46, r47_48, r47_51, r47_52, r47_54, r47_57, r47_58, r47_58n, r47_59, r47_60, r47_63, r47_63n, r47_67, r47_68, r47_68n, r47_69, r47_72, r47_75, r47_76, r47_77, r47_77n, r47_78, r47_79, r47_82, r47_82n, r47_83, r47_83n, r47_84, r47_87, r47_90, r47_90n, r47_91, r47_94, i32_10, reduceIte, gm_cmp1, gm_cmp3, gm_cmp4, gm_kd_sf, gm_ln_sf, gm_sf_1, gm_sf_2, gm_nw_1, gm_nw_2, gm_k_int, gm_k_ref, gm_k_null, gm_k_u, gm_k_long, and_true, true_and, true_or, or_true, or_false, false_or, and_self, or_self, if_true, if_false, List.map_nil, List.map_cons, List.sum_nil, List.sum_cons, Nat.zero_le, Option.toList_some, Option.toList_none, List.cons_append, List.nil_append, ne_eq, not_false_eq_true, not_true_eq_false, nI_1, nI_add, Value.category, Nat.reduceAdd, Nat.reduceMod, Nat.reduceLeDiff, Nat.reduceLT, Nat.reduceEqDiff, Nat.reducePow, Nat.le_refl, Nat.add_left_cancel_iff, Nat.add_eq_left, Nat.left_eq_add, Nat.add_zero, g_k0, g_k1, g_l1, g_p4, g_a1, g_w1, g_k2, g_l2, g_p10, g_a2, g_w2, g_k3, g_l3, g_p11, g_a3, g_w3, g_k4, g_l4, g_p12, g_a4, g_w4, g_k5, g_l5, g_p13, g_a5, g_w5, g_k6, g_l6, g_p14, g_a6, g_w6, g_k7, g_l7, g_p15, g_a7, g_w7, g_k8, g_l8, g_p16, g_a8, g_w8, g_k9, g_l9, g_p17, g_a9, g_w9, g_k10, g_l10, g_p18, g_a10, g_w10, g_k11, g_l11, g_p19, g_a11, g_w11, g_k12, g_l12, g_p20, g_a12, g_w12, g_k13, g_l13, g_p21, g_a13, g_w13, g_k14, g_l14, g_p22, g_a14, g_w14, g_k15, g_l15, g_p24, g_a15, g_w15, g_k16, g_l16, g_p26, g_a16, g_w16, g_k17, g_l17, g_p27, g_a17, g_w17, g_k18, g_l18, g_p29, g_a18, g_w18, g_k19, g_l19, g_p30, g_a19, g_w19, g_k20, g_l20, g_p31, g_a20, g_w20, g_k21, g_l21, g_p32, g_a21, g_w21, g_k22, g_l22, g_p33, g_a22, g_w22, g_k23, g_l23, g_p34, g_a23, g_w23, g_k24, g_l24, g_p35, g_a24, g_w24, g_k25, g_l25, g_p36, g_a25, g_w25, g_k26, g_l26, g_p37, g_a26, g_w26, g_k27, g_l27, g_p38, g_a27, g_w27, g_k28, g_l28, g_p40, g_a28, g_w28, g_k29, g_l29, g_p41, g_a29, g_w29, g_k30, g_l30, g_p42, g_a30, g_w30, g_k31, g_l31, g_p43, g_a31, g_w31, g_k32, g_l32, g_p44, g_a32, g_w32, g_k33, g_l33, g_p45, g_a33, g_w33, g_k34, g_l34, g_p46, g_a34, g_w34, g_f0, g_s0, g_f1, g_s1, g_f2, g_s2, g_f3, g_s3, g_f5, g_s5, g_f6, g_s6, g_f7, g_s7, g_f8, g_s8, g_f9, g_s9, g_f23, g_s23, g_f25, g_s25, g_f28, g_s28, g_f39, g_s39, g_f47, g_s47, gr_ui_eq, gr_ui_2, gr_ul_eq, gr_ul_1, gr_ui_no, gr_ui_ni, gr_ul_no, gr_ul_ni, h7, hp, B.1, nI_leF hc (show gs_n K < 2 ^ 31 by omega), h700, eb, a, b]
        exact g
    · simp only [r47_0, r47_0n, r47_1, r47_4, r47_7, r47_7n, r47_8, r47_11, r47_12, r47_12n, r47_13, r47_16, r47_16n, r47_17, r47_20, r47_23, r47_23n, r47_24, r47_27, r47_27n, r47_28, r47_31, r47_32, r47_34, r47_37, r47_37n, r47_38, r47_41, r47_41n, r47_42, r47_45, r47_46, r47_48, r47_51, r47_52, r47_53, r47_53n, r47_54, r47_57, r47_58, r47_58n, r47_59, r47_60, r47_63, r47_63n, r47_67, r47_68, r47_68n, r47_69, r47_72, r47_75, r47_76, r47_77, r47_77n, r47_78, r47_79, r47_82, r47_82n, r47_83, r47_83n, r47_84, r47_87, r47_90, r47_90n, r47_91, r47_94, i32_10, reduceIte, gm_cmp1, gm_cmp3, gm_cmp4, gm_kd_sf, gm_ln_sf, gm_sf_1, gm_sf_2, gm_nw_1, gm_nw_2, gm_k_int, gm_k_ref, gm_k_null, gm_k_u, gm_k_long, and_true, true_and, true_or, or_true, or_false, false_or, and_self, or_self, if_true, if_false, List.map_nil, List.map_cons, List.sum_nil, List.sum_cons, Nat.zero_le, Option.toList_some, Option.toList_none, List.cons_append, List.nil_append, ne_eq, not_false_eq_true, not_true_eq_false, nI_1, nI_add, Value.category, Nat.reduceAdd, Nat.reduceMod, Nat.reduceLeDiff, Nat.reduceLT, Nat.reduceEqDiff, Nat.reducePow, Nat.le_refl, Nat.add_left_cancel_iff, Nat.add_eq_left, Nat.left_eq_add, Nat.add_zero, g_k0, g_k1, g_l1, g_p4, g_a1, g_w1, g_k2, g_l2, g_p10, g_a2, g_w2, g_k3, g_l3, g_p11, g_a3, g_w3, g_k4, g_l4, g_p12, g_a4, g_w4, g_k5, g_l5, g_p13, g_a5, g_w5, g_k6, g_l6, g_p14, g_a6, g_w6, g_k7, g_l7, g_p15, g_a7, g_w7, g_k8, g_l8, g_p16, g_a8, g_w8, g_k9, g_l9, g_p17, g_a9, g_w9, g_k10, g_l10, g_p18, g_a10, g_w10, g_k11, g_l11, g_p19, g_a11, g_w11, g_k12, g_l12, g_p20, g_a12, g_w12, g_k13, g_l13, g_p21, g_a13, g_w13, g_k14, g_l14, g_p22, g_a14, g_w14, g_k15, g_l15, g_p24, g_a15, g_w15, g_k16, g_l16, g_p26, g_a16, g_w16, g_k17, g_l17, g_p27, g_a17, g_w17, g_k18, g_l18, g_p29, g_a18, g_w18, g_k19, g_l19, g_p30, g_a19, g_w19, g_k20, g_l20, g_p31, g_a20, g_w20, g_k21, g_l21, g_p32, g_a21, g_w21, g_k22, g_l22, g_p33, g_a22, g_w22, g_k23, g_l23, g_p34, g_a23, g_w23, g_k24, g_l24, g_p35, g_a24, g_w24, g_k25, g_l25, g_p36, g_a25, g_w25, g_k26, g_l26, g_p37, g_a26, g_w26, g_k27, g_l27, g_p38, g_a27, g_w27, g_k28, g_l28, g_p40, g_a28, g_w28, g_k29, g_l29, g_p41, g_a29, g_w29, g_k30, g_l30, g_p42, g_a30, g_w30, g_k31, g_l31, g_p43, g_a31, g_w31, g_k32, g_l32, g_p44, g_a32, g_w32, g_k33, g_l33, g_p45, g_a33, g_w33, g_k34, g_l34, g_p46, g_a34, g_w34, g_f0, g_s0, g_f1, g_s1, g_f2, g_s2, g_f3, g_s3, g_f5, g_s5, g_f6, g_s6, g_f7, g_s7, g_f8, g_s8, g_f9, g_s9, g_f23, g_s23, g_f25, g_s25, g_f28, g_s28, g_f39, g_s39, g_f47, g_s47, gr_ui_eq, gr_ui_2, gr_ul_eq, gr_ul_1, gr_ui_no, gr_ui_ni, gr_ul_no, gr_ul_ni, h7, hp, B.1, nI_leT (Nat.not_lt.mp hc) (show gs_pl s < 2 ^ 31 by omega)]
      exact none (Or.inl (by omega))
  · have e : gs_pass K s lf = (lf, s, lf) := by unfold gs_pass; rw [if_pos (by simpa using hl)]
    simp only [r47_0, r47_0n, r47_1, r47_4, r47_7, r47_7n, r47_8, r47_11, r47_12, r47_12n, r47_13, r47_16, r47_16n, r47_17, r47_20, r47_23, r47_23n, r47_24, r47_27, r47_27n, r47_28, r47_31, r47_32, r47_34, r47_37, r47_37n, r47_38, r47_41, r47_41n, r47_42, r47_45, r47_46, r47_48, r47_51, r47_52, r47_53, r47_53n, r47_54, r47_57, r47_58, r47_58n, r47_59, r47_60, r47_63, r47_63n, r47_67, r47_68, r47_68n, r47_69, r47_72, r47_75, r47_76, r47_77, r47_77n, r47_78, r47_79, r47_82, r47_82n, r47_83, r47_83n, r47_84, r47_87, r47_90, r47_90n, r47_91, r47_94, i32_10, reduceIte, gm_cmp1, gm_cmp3, gm_cmp4, gm_kd_sf, gm_ln_sf, gm_sf_1, gm_sf_2, gm_nw_1, gm_nw_2, gm_k_int, gm_k_ref, gm_k_null, gm_k_u, gm_k_long, and_true, true_and, true_or, or_true, or_false, false_or, and_self, or_self, if_true, if_false, List.map_nil, List.map_cons, List.sum_nil, List.sum_cons, Nat.zero_le, Option.toList_some, Option.toList_none, List.cons_append, List.nil_append, ne_eq, not_false_eq_true, not_true_eq_false, nI_1, nI_add, Value.category, Nat.reduceAdd, Nat.reduceMod, Nat.reduceLeDiff, Nat.reduceLT, Nat.reduceEqDiff, Nat.reducePow, Nat.le_refl, Nat.add_left_cancel_iff, Nat.add_eq_left, Nat.left_eq_add, Nat.add_zero, g_k0, g_k1, g_l1, g_p4, g_a1, g_w1, g_k2, g_l2, g_p10, g_a2, g_w2, g_k3, g_l3, g_p11, g_a3, g_w3, g_k4, g_l4, g_p12, g_a4, g_w4, g_k5, g_l5, g_p13, g_a5, g_w5, g_k6, g_l6, g_p14, g_a6, g_w6, g_k7, g_l7, g_p15, g_a7, g_w7, g_k8, g_l8, g_p16, g_a8, g_w8, g_k9, g_l9, g_p17, g_a9, g_w9, g_k10, g_l10, g_p18, g_a10, g_w10, g_k11, g_l11, g_p19, g_a11, g_w11, g_k12, g_l12, g_p20, g_a12, g_w12, g_k13, g_l13, g_p21, g_a13, g_w13, g_k14, g_l14, g_p22, g_a14, g_w14, g_k15, g_l15, g_p24, g_a15, g_w15, g_k16, g_l16, g_p26, g_a16, g_w16, g_k17, g_l17, g_p27, g_a17, g_w17, g_k18, g_l18, g_p29, g_a18, g_w18, g_k19, g_l19, g_p30, g_a19, g_w19, g_k20, g_l20, g_p31, g_a20, g_w20, g_k21, g_l21, g_p32, g_a21, g_w21, g_k22, g_l22, g_p33, g_a22, g_w22, g_k23, g_l23, g_p34, g_a23, g_w23, g_k24, g_l24, g_p35, g_a24, g_w24, g_k25, g_l25, g_p36, g_a25, g_w25, g_k26, g_l26, g_p37, g_a26, g_w26, g_k27, g_l27, g_p38, g_a27, g_w27, g_k28, g_l28, g_p40, g_a28, g_w28, g_k29, g_l29, g_p41, g_a29, g_w29, g_k30, g_l30, g_p42, g_a30, g_w30, g_k31, g_l31, g_p43, g_a31, g_w31, g_k32, g_l32, g_p44, g_a32, g_w32, g_k33, g_l33, g_p45, g_a33, g_w33, g_k34, g_l34, g_p46, g_a34, g_w34, g_f0, g_s0, g_f1, g_s1, g_f2, g_s2, g_f3, g_s3, g_f5, g_s5, g_f6, g_s6, g_f7, g_s7, g_f8, g_s8, g_f9, g_s9, g_f23, g_s23, g_f25, g_s25, g_f28, g_s28, g_f39, g_s39, g_f47, g_s47, gr_ui_eq, gr_ui_2, gr_ul_eq, gr_ul_1, gr_ui_no, gr_ui_ni, gr_ul_no, gr_ul_ni, h7, hl]
    rw [hQ]
    dsimp only
    rw [e]
    exact ⟨rfl, t, rfl, gr_ke.refl, hp, h7⟩
end MA
